theorem BL_law_380 : bsegs (ByteArray.data cL_law |>.toList.drop 380) 380 [(380, [4]), (381, [96]), (382, [46]), (383, [42]), (384, [29]), (385, [5]), (386, [96]), (387, [46]), (388, [42]), (389, [29]), (390, [6]), (391, [96]), (392, [46]), (393, [42]), (394, [29]), (395, [7]), (396, [96]), (397, [46]), (398, [42]), (399, [29]), (400, [8]), (401, [96]), (402, [46]), (403, [182, 0, 36])] = true := by decide +kernel
theorem dL_law_380 : decode cL_law 380 = .ok (.iconst 1, 1) := dk_4 (bs_at BL_law_380 0 rfl)
theorem dL_law_381 : decode cL_law 381 = .ok (.iadd, 1) := dk_96 (bs_at BL_law_380 1 rfl)
theorem dL_law_382 : decode cL_law 382 = .ok (.iaload, 1) := dk_46 (bs_at BL_law_380 2 rfl)
theorem dL_law_383 : decode cL_law 383 = .ok (.aload_n 0, 1) := dk_42 (bs_at BL_law_380 3 rfl)
theorem dL_law_384 : decode cL_law 384 = .ok (.iload_n 3, 1) := dk_29 (bs_at BL_law_380 4 rfl)
theorem dL_law_385 : decode cL_law 385 = .ok (.iconst 2, 1) := dk_5 (bs_at BL_law_380 5 rfl)
theorem dL_law_386 : decode cL_law 386 = .ok (.iadd, 1) := dk_96 (bs_at BL_law_380 6 rfl)
theorem dL_law_387 : decode cL_law 387 = .ok (.iaload, 1) := dk_46 (bs_at BL_law_380 7 rfl)
theorem dL_law_388 : decode cL_law 388 = .ok (.aload_n 0, 1) := dk_42 (bs_at BL_law_380 8 rfl)
theorem dL_law_389 : decode cL_law 389 = .ok (.iload_n 3, 1) := dk_29 (bs_at BL_law_380 9 rfl)
theorem dL_law_390 : decode cL_law 390 = .ok (.iconst 3, 1) := dk_6 (bs_at BL_law_380 10 rfl)
theorem dL_law_391 : decode cL_law 391 = .ok (.iadd, 1) := dk_96 (bs_at BL_law_380 11 rfl)
theorem dL_law_392 : decode cL_law 392 = .ok (.iaload, 1) := dk_46 (bs_at BL_law_380 12 rfl)
theorem dL_law_393 : decode cL_law 393 = .ok (.aload_n 0, 1) := dk_42 (bs_at BL_law_380 13 rfl)
theorem dL_law_394 : decode cL_law 394 = .ok (.iload_n 3, 1) := dk_29 (bs_at BL_law_380 14 rfl)
theorem dL_law_395 : decode cL_law 395 = .ok (.iconst 4, 1) := dk_7 (bs_at BL_law_380 15 rfl)
theorem dL_law_396 : decode cL_law 396 = .ok (.iadd, 1) := dk_96 (bs_at BL_law_380 16 rfl)
theorem dL_law_397 : decode cL_law 397 = .ok (.iaload, 1) := dk_46 (bs_at BL_law_380 17 rfl)
theorem dL_law_398 : decode cL_law 398 = .ok (.aload_n 0, 1) := dk_42 (bs_at BL_law_380 18 rfl)
theorem dL_law_399 : decode cL_law 399 = .ok (.iload_n 3, 1) := dk_29 (bs_at BL_law_380 19 rfl)
theorem dL_law_400 : decode cL_law 400 = .ok (.iconst 5, 1) := dk_8 (bs_at BL_law_380 20 rfl)
theorem dL_law_401 : decode cL_law 401 = .ok (.iadd, 1) := dk_96 (bs_at BL_law_380 21 rfl)
theorem dL_law_402 : decode cL_law 402 = .ok (.iaload, 1) := dk_46 (bs_at BL_law_380 22 rfl)
theorem dL_law_403 : decode cL_law 403 = .ok (.invokevirtual 36, 3) := dk_182 0 36 (bs_at BL_law_380 23 rfl) rfl
theorem BL_law_406 : bsegs (ByteArray.data cL_law |>.toList.drop 406) 406 [(406, [87]), (407, [44]), (408, [42]), (409, [29]), (410, [4]), (411, [96]), (412, [46]), (413, [42]), (414, [29]), (415, [5]), (416, [96]), (417, [46]), (418, [42]), (419, [29]), (420, [6]), (421, [96]), (422, [46]), (423, [42]), (424, [29]), (425, [7]), (426, [96]), (427, [46]), (428, [42]), (429, [29])] = true := by decide +kernel
theorem dL_law_406 : decode cL_law 406 = .ok (.pop, 1) := dk_87 (bs_at BL_law_406 0 rfl)
theorem dL_law_407 : decode cL_law 407 = .ok (.aload_n 2, 1) := dk_44 (bs_at BL_law_406 1 rfl)
theorem dL_law_408 : decode cL_law 408 = .ok (.aload_n 0, 1) := dk_42 (bs_at BL_law_406 2 rfl)
theorem dL_law_409 : decode cL_law 409 = .ok (.iload_n 3, 1) := dk_29 (bs_at BL_law_406 3 rfl)
theorem dL_law_410 : decode cL_law 410 = .ok (.iconst 1, 1) := dk_4 (bs_at BL_law_406 4 rfl)
theorem dL_law_411 : decode cL_law 411 = .ok (.iadd, 1) := dk_96 (bs_at BL_law_406 5 rfl)
theorem dL_law_412 : decode cL_law 412 = .ok (.iaload, 1) := dk_46 (bs_at BL_law_406 6 rfl)
theorem dL_law_413 : decode cL_law 413 = .ok (.aload_n 0, 1) := dk_42 (bs_at BL_law_406 7 rfl)
theorem dL_law_414 : decode cL_law 414 = .ok (.iload_n 3, 1) := dk_29 (bs_at BL_law_406 8 rfl)
theorem dL_law_415 : decode cL_law 415 = .ok (.iconst 2, 1) := dk_5 (bs_at BL_law_406 9 rfl)
theorem dL_law_416 : decode cL_law 416 = .ok (.iadd, 1) := dk_96 (bs_at BL_law_406 10 rfl)
theorem dL_law_417 : decode cL_law 417 = .ok (.iaload, 1) := dk_46 (bs_at BL_law_406 11 rfl)
theorem dL_law_418 : decode cL_law 418 = .ok (.aload_n 0, 1) := dk_42 (bs_at BL_law_406 12 rfl)
theorem dL_law_419 : decode cL_law 419 = .ok (.iload_n 3, 1) := dk_29 (bs_at BL_law_406 13 rfl)
theorem dL_law_420 : decode cL_law 420 = .ok (.iconst 3, 1) := dk_6 (bs_at BL_law_406 14 rfl)
theorem dL_law_421 : decode cL_law 421 = .ok (.iadd, 1) := dk_96 (bs_at BL_law_406 15 rfl)
theorem dL_law_422 : decode cL_law 422 = .ok (.iaload, 1) := dk_46 (bs_at BL_law_406 16 rfl)
theorem dL_law_423 : decode cL_law 423 = .ok (.aload_n 0, 1) := dk_42 (bs_at BL_law_406 17 rfl)
theorem dL_law_424 : decode cL_law 424 = .ok (.iload_n 3, 1) := dk_29 (bs_at BL_law_406 18 rfl)
theorem dL_law_425 : decode cL_law 425 = .ok (.iconst 4, 1) := dk_7 (bs_at BL_law_406 19 rfl)
theorem dL_law_426 : decode cL_law 426 = .ok (.iadd, 1) := dk_96 (bs_at BL_law_406 20 rfl)
theorem dL_law_427 : decode cL_law 427 = .ok (.iaload, 1) := dk_46 (bs_at BL_law_406 21 rfl)
theorem dL_law_428 : decode cL_law 428 = .ok (.aload_n 0, 1) := dk_42 (bs_at BL_law_406 22 rfl)
theorem dL_law_429 : decode cL_law 429 = .ok (.iload_n 3, 1) := dk_29 (bs_at BL_law_406 23 rfl)
theorem BL_law_430 : bsegs (ByteArray.data cL_law |>.toList.drop 430) 430 [(430, [8]), (431, [96]), (432, [46]), (433, [182, 0, 39]), (436, [87]), (437, [167, 2, 161]), (440, [43]), (441, [42]), (442, [29]), (443, [4]), (444, [96]), (445, [46]), (446, [182, 0, 40]), (449, [87]), (450, [44]), (451, [42]), (452, [29]), (453, [4]), (454, [96]), (455, [46]), (456, [182, 0, 43]), (459, [87]), (460, [167, 2, 138]), (463, [43])] = true := by decide +kernel
theorem dL_law_430 : decode cL_law 430 = .ok (.iconst 5, 1) := dk_8 (bs_at BL_law_430 0 rfl)
theorem dL_law_431 : decode cL_law 431 = .ok (.iadd, 1) := dk_96 (bs_at BL_law_430 1 rfl)
theorem dL_law_432 : decode cL_law 432 = .ok (.iaload, 1) := dk_46 (bs_at BL_law_430 2 rfl)
theorem dL_law_433 : decode cL_law 433 = .ok (.invokevirtual 39, 3) := dk_182 0 39 (bs_at BL_law_430 3 rfl) rfl
theorem dL_law_436 : decode cL_law 436 = .ok (.pop, 1) := dk_87 (bs_at BL_law_430 4 rfl)
theorem dL_law_437 : decode cL_law 437 = .ok (.goto 673, 3) := dk_167 2 161 (bs_at BL_law_430 5 rfl) rfl
theorem dL_law_440 : decode cL_law 440 = .ok (.aload_n 1, 1) := dk_43 (bs_at BL_law_430 6 rfl)
theorem dL_law_441 : decode cL_law 441 = .ok (.aload_n 0, 1) := dk_42 (bs_at BL_law_430 7 rfl)
theorem dL_law_442 : decode cL_law 442 = .ok (.iload_n 3, 1) := dk_29 (bs_at BL_law_430 8 rfl)
theorem dL_law_443 : decode cL_law 443 = .ok (.iconst 1, 1) := dk_4 (bs_at BL_law_430 9 rfl)
theorem dL_law_444 : decode cL_law 444 = .ok (.iadd, 1) := dk_96 (bs_at BL_law_430 10 rfl)
theorem dL_law_445 : decode cL_law 445 = .ok (.iaload, 1) := dk_46 (bs_at BL_law_430 11 rfl)
theorem dL_law_446 : decode cL_law 446 = .ok (.invokevirtual 40, 3) := dk_182 0 40 (bs_at BL_law_430 12 rfl) rfl
theorem dL_law_449 : decode cL_law 449 = .ok (.pop, 1) := dk_87 (bs_at BL_law_430 13 rfl)
theorem dL_law_450 : decode cL_law 450 = .ok (.aload_n 2, 1) := dk_44 (bs_at BL_law_430 14 rfl)
theorem dL_law_451 : decode cL_law 451 = .ok (.aload_n 0, 1) := dk_42 (bs_at BL_law_430 15 rfl)
theorem dL_law_452 : decode cL_law 452 = .ok (.iload_n 3, 1) := dk_29 (bs_at BL_law_430 16 rfl)
theorem dL_law_453 : decode cL_law 453 = .ok (.iconst 1, 1) := dk_4 (bs_at BL_law_430 17 rfl)
theorem dL_law_454 : decode cL_law 454 = .ok (.iadd, 1) := dk_96 (bs_at BL_law_430 18 rfl)
theorem dL_law_455 : decode cL_law 455 = .ok (.iaload, 1) := dk_46 (bs_at BL_law_430 19 rfl)
theorem dL_law_456 : decode cL_law 456 = .ok (.invokevirtual 43, 3) := dk_182 0 43 (bs_at BL_law_430 20 rfl) rfl
theorem dL_law_459 : decode cL_law 459 = .ok (.pop, 1) := dk_87 (bs_at BL_law_430 21 rfl)
theorem dL_law_460 : decode cL_law 460 = .ok (.goto 650, 3) := dk_167 2 138 (bs_at BL_law_430 22 rfl) rfl
theorem dL_law_463 : decode cL_law 463 = .ok (.aload_n 1, 1) := dk_43 (bs_at BL_law_430 23 rfl)
theorem BL_law_464 : bsegs (ByteArray.data cL_law |>.toList.drop 464) 464 [(464, [182, 0, 44]), (467, [87]), (468, [44]), (469, [182, 0, 48]), (472, [87]), (473, [167, 2, 125]), (476, [43]), (477, [182, 0, 49]), (480, [87]), (481, [44]), (482, [182, 0, 52]), (485, [87]), (486, [167, 2, 112]), (489, [43]), (490, [182, 0, 53]), (493, [87]), (494, [44]), (495, [182, 0, 56]), (498, [87]), (499, [167, 2, 99]), (502, [43]), (503, [182, 0, 57]), (506, [87]), (507, [44])] = true := by decide +kernel
theorem dL_law_464 : decode cL_law 464 = .ok (.invokevirtual 44, 3) := dk_182 0 44 (bs_at BL_law_464 0 rfl) rfl
theorem dL_law_467 : decode cL_law 467 = .ok (.pop, 1) := dk_87 (bs_at BL_law_464 1 rfl)
theorem dL_law_468 : decode cL_law 468 = .ok (.aload_n 2, 1) := dk_44 (bs_at BL_law_464 2 rfl)
theorem dL_law_469 : decode cL_law 469 = .ok (.invokevirtual 48, 3) := dk_182 0 48 (bs_at BL_law_464 3 rfl) rfl
theorem dL_law_472 : decode cL_law 472 = .ok (.pop, 1) := dk_87 (bs_at BL_law_464 4 rfl)
theorem dL_law_473 : decode cL_law 473 = .ok (.goto 637, 3) := dk_167 2 125 (bs_at BL_law_464 5 rfl) rfl
theorem dL_law_476 : decode cL_law 476 = .ok (.aload_n 1, 1) := dk_43 (bs_at BL_law_464 6 rfl)
theorem dL_law_477 : decode cL_law 477 = .ok (.invokevirtual 49, 3) := dk_182 0 49 (bs_at BL_law_464 7 rfl) rfl
theorem dL_law_480 : decode cL_law 480 = .ok (.pop, 1) := dk_87 (bs_at BL_law_464 8 rfl)
theorem dL_law_481 : decode cL_law 481 = .ok (.aload_n 2, 1) := dk_44 (bs_at BL_law_464 9 rfl)
theorem dL_law_482 : decode cL_law 482 = .ok (.invokevirtual 52, 3) := dk_182 0 52 (bs_at BL_law_464 10 rfl) rfl
theorem dL_law_485 : decode cL_law 485 = .ok (.pop, 1) := dk_87 (bs_at BL_law_464 11 rfl)
theorem dL_law_486 : decode cL_law 486 = .ok (.goto 624, 3) := dk_167 2 112 (bs_at BL_law_464 12 rfl) rfl
theorem dL_law_489 : decode cL_law 489 = .ok (.aload_n 1, 1) := dk_43 (bs_at BL_law_464 13 rfl)
theorem dL_law_490 : decode cL_law 490 = .ok (.invokevirtual 53, 3) := dk_182 0 53 (bs_at BL_law_464 14 rfl) rfl
theorem dL_law_493 : decode cL_law 493 = .ok (.pop, 1) := dk_87 (bs_at BL_law_464 15 rfl)
theorem dL_law_494 : decode cL_law 494 = .ok (.aload_n 2, 1) := dk_44 (bs_at BL_law_464 16 rfl)
theorem dL_law_495 : decode cL_law 495 = .ok (.invokevirtual 56, 3) := dk_182 0 56 (bs_at BL_law_464 17 rfl) rfl
theorem dL_law_498 : decode cL_law 498 = .ok (.pop, 1) := dk_87 (bs_at BL_law_464 18 rfl)
theorem dL_law_499 : decode cL_law 499 = .ok (.goto 611, 3) := dk_167 2 99 (bs_at BL_law_464 19 rfl) rfl
theorem dL_law_502 : decode cL_law 502 = .ok (.aload_n 1, 1) := dk_43 (bs_at BL_law_464 20 rfl)
theorem dL_law_503 : decode cL_law 503 = .ok (.invokevirtual 57, 3) := dk_182 0 57 (bs_at BL_law_464 21 rfl) rfl
theorem dL_law_506 : decode cL_law 506 = .ok (.pop, 1) := dk_87 (bs_at BL_law_464 22 rfl)
theorem dL_law_507 : decode cL_law 507 = .ok (.aload_n 2, 1) := dk_44 (bs_at BL_law_464 23 rfl)
theorem BL_law_508 : bsegs (ByteArray.data cL_law |>.toList.drop 508) 508 [(508, [182, 0, 60]), (511, [87]), (512, [167, 2, 86]), (515, [43]), (516, [182, 0, 61]), (519, [87]), (520, [44]), (521, [182, 0, 64]), (524, [87]), (525, [167, 2, 73]), (528, [43]), (529, [182, 0, 65]), (532, [87]), (533, [44]), (534, [182, 0, 68]), (537, [87]), (538, [167, 2, 60]), (541, [43]), (542, [42]), (543, [29]), (544, [4]), (545, [96]), (546, [46]), (547, [182, 0, 69])] = true := by decide +kernel
theorem dL_law_508 : decode cL_law 508 = .ok (.invokevirtual 60, 3) := dk_182 0 60 (bs_at BL_law_508 0 rfl) rfl
theorem dL_law_511 : decode cL_law 511 = .ok (.pop, 1) := dk_87 (bs_at BL_law_508 1 rfl)
theorem dL_law_512 : decode cL_law 512 = .ok (.goto 598, 3) := dk_167 2 86 (bs_at BL_law_508 2 rfl) rfl
theorem dL_law_515 : decode cL_law 515 = .ok (.aload_n 1, 1) := dk_43 (bs_at BL_law_508 3 rfl)
theorem dL_law_516 : decode cL_law 516 = .ok (.invokevirtual 61, 3) := dk_182 0 61 (bs_at BL_law_508 4 rfl) rfl
theorem dL_law_519 : decode cL_law 519 = .ok (.pop, 1) := dk_87 (bs_at BL_law_508 5 rfl)
theorem dL_law_520 : decode cL_law 520 = .ok (.aload_n 2, 1) := dk_44 (bs_at BL_law_508 6 rfl)
theorem dL_law_521 : decode cL_law 521 = .ok (.invokevirtual 64, 3) := dk_182 0 64 (bs_at BL_law_508 7 rfl) rfl
theorem dL_law_524 : decode cL_law 524 = .ok (.pop, 1) := dk_87 (bs_at BL_law_508 8 rfl)
theorem dL_law_525 : decode cL_law 525 = .ok (.goto 585, 3) := dk_167 2 73 (bs_at BL_law_508 9 rfl) rfl
theorem dL_law_528 : decode cL_law 528 = .ok (.aload_n 1, 1) := dk_43 (bs_at BL_law_508 10 rfl)
theorem dL_law_529 : decode cL_law 529 = .ok (.invokevirtual 65, 3) := dk_182 0 65 (bs_at BL_law_508 11 rfl) rfl
theorem dL_law_532 : decode cL_law 532 = .ok (.pop, 1) := dk_87 (bs_at BL_law_508 12 rfl)
theorem dL_law_533 : decode cL_law 533 = .ok (.aload_n 2, 1) := dk_44 (bs_at BL_law_508 13 rfl)
theorem dL_law_534 : decode cL_law 534 = .ok (.invokevirtual 68, 3) := dk_182 0 68 (bs_at BL_law_508 14 rfl) rfl
theorem dL_law_537 : decode cL_law 537 = .ok (.pop, 1) := dk_87 (bs_at BL_law_508 15 rfl)
theorem dL_law_538 : decode cL_law 538 = .ok (.goto 572, 3) := dk_167 2 60 (bs_at BL_law_508 16 rfl) rfl
theorem dL_law_541 : decode cL_law 541 = .ok (.aload_n 1, 1) := dk_43 (bs_at BL_law_508 17 rfl)
theorem dL_law_542 : decode cL_law 542 = .ok (.aload_n 0, 1) := dk_42 (bs_at BL_law_508 18 rfl)
theorem dL_law_543 : decode cL_law 543 = .ok (.iload_n 3, 1) := dk_29 (bs_at BL_law_508 19 rfl)
theorem dL_law_544 : decode cL_law 544 = .ok (.iconst 1, 1) := dk_4 (bs_at BL_law_508 20 rfl)
theorem dL_law_545 : decode cL_law 545 = .ok (.iadd, 1) := dk_96 (bs_at BL_law_508 21 rfl)
theorem dL_law_546 : decode cL_law 546 = .ok (.iaload, 1) := dk_46 (bs_at BL_law_508 22 rfl)
theorem dL_law_547 : decode cL_law 547 = .ok (.invokevirtual 69, 3) := dk_182 0 69 (bs_at BL_law_508 23 rfl) rfl
theorem BL_law_550 : bsegs (ByteArray.data cL_law |>.toList.drop 550) 550 [(550, [87]), (551, [44]), (552, [42]), (553, [29]), (554, [4]), (555, [96]), (556, [46]), (557, [182, 0, 72]), (560, [87]), (561, [167, 2, 37]), (564, [43]), (565, [182, 0, 73]), (568, [87]), (569, [44]), (570, [182, 0, 76]), (573, [87]), (574, [167, 2, 24]), (577, [43]), (578, [42]), (579, [29]), (580, [4]), (581, [96]), (582, [46]), (583, [182, 0, 77])] = true := by decide +kernel
theorem dL_law_550 : decode cL_law 550 = .ok (.pop, 1) := dk_87 (bs_at BL_law_550 0 rfl)
theorem dL_law_551 : decode cL_law 551 = .ok (.aload_n 2, 1) := dk_44 (bs_at BL_law_550 1 rfl)
theorem dL_law_552 : decode cL_law 552 = .ok (.aload_n 0, 1) := dk_42 (bs_at BL_law_550 2 rfl)
theorem dL_law_553 : decode cL_law 553 = .ok (.iload_n 3, 1) := dk_29 (bs_at BL_law_550 3 rfl)
theorem dL_law_554 : decode cL_law 554 = .ok (.iconst 1, 1) := dk_4 (bs_at BL_law_550 4 rfl)
theorem dL_law_555 : decode cL_law 555 = .ok (.iadd, 1) := dk_96 (bs_at BL_law_550 5 rfl)
theorem dL_law_556 : decode cL_law 556 = .ok (.iaload, 1) := dk_46 (bs_at BL_law_550 6 rfl)
theorem dL_law_557 : decode cL_law 557 = .ok (.invokevirtual 72, 3) := dk_182 0 72 (bs_at BL_law_550 7 rfl) rfl
theorem dL_law_560 : decode cL_law 560 = .ok (.pop, 1) := dk_87 (bs_at BL_law_550 8 rfl)
theorem dL_law_561 : decode cL_law 561 = .ok (.goto 549, 3) := dk_167 2 37 (bs_at BL_law_550 9 rfl) rfl
theorem dL_law_564 : decode cL_law 564 = .ok (.aload_n 1, 1) := dk_43 (bs_at BL_law_550 10 rfl)
theorem dL_law_565 : decode cL_law 565 = .ok (.invokevirtual 73, 3) := dk_182 0 73 (bs_at BL_law_550 11 rfl) rfl
theorem dL_law_568 : decode cL_law 568 = .ok (.pop, 1) := dk_87 (bs_at BL_law_550 12 rfl)
theorem dL_law_569 : decode cL_law 569 = .ok (.aload_n 2, 1) := dk_44 (bs_at BL_law_550 13 rfl)
theorem dL_law_570 : decode cL_law 570 = .ok (.invokevirtual 76, 3) := dk_182 0 76 (bs_at BL_law_550 14 rfl) rfl
theorem dL_law_573 : decode cL_law 573 = .ok (.pop, 1) := dk_87 (bs_at BL_law_550 15 rfl)
theorem dL_law_574 : decode cL_law 574 = .ok (.goto 536, 3) := dk_167 2 24 (bs_at BL_law_550 16 rfl) rfl
theorem dL_law_577 : decode cL_law 577 = .ok (.aload_n 1, 1) := dk_43 (bs_at BL_law_550 17 rfl)
theorem dL_law_578 : decode cL_law 578 = .ok (.aload_n 0, 1) := dk_42 (bs_at BL_law_550 18 rfl)
theorem dL_law_579 : decode cL_law 579 = .ok (.iload_n 3, 1) := dk_29 (bs_at BL_law_550 19 rfl)
theorem dL_law_580 : decode cL_law 580 = .ok (.iconst 1, 1) := dk_4 (bs_at BL_law_550 20 rfl)
theorem dL_law_581 : decode cL_law 581 = .ok (.iadd, 1) := dk_96 (bs_at BL_law_550 21 rfl)
theorem dL_law_582 : decode cL_law 582 = .ok (.iaload, 1) := dk_46 (bs_at BL_law_550 22 rfl)
theorem dL_law_583 : decode cL_law 583 = .ok (.invokevirtual 77, 3) := dk_182 0 77 (bs_at BL_law_550 23 rfl) rfl
theorem BL_law_586 : bsegs (ByteArray.data cL_law |>.toList.drop 586) 586 [(586, [87]), (587, [44]), (588, [42]), (589, [29]), (590, [4]), (591, [96]), (592, [46]), (593, [182, 0, 80]), (596, [87]), (597, [167, 2, 1]), (600, [43]), (601, [42]), (602, [29]), (603, [4]), (604, [96]), (605, [46]), (606, [182, 0, 81]), (609, [44]), (610, [42]), (611, [29]), (612, [4]), (613, [96]), (614, [46]), (615, [182, 0, 84])] = true := by decide +kernel
theorem dL_law_586 : decode cL_law 586 = .ok (.pop, 1) := dk_87 (bs_at BL_law_586 0 rfl)
theorem dL_law_587 : decode cL_law 587 = .ok (.aload_n 2, 1) := dk_44 (bs_at BL_law_586 1 rfl)
theorem dL_law_588 : decode cL_law 588 = .ok (.aload_n 0, 1) := dk_42 (bs_at BL_law_586 2 rfl)
theorem dL_law_589 : decode cL_law 589 = .ok (.iload_n 3, 1) := dk_29 (bs_at BL_law_586 3 rfl)
theorem dL_law_590 : decode cL_law 590 = .ok (.iconst 1, 1) := dk_4 (bs_at BL_law_586 4 rfl)
theorem dL_law_591 : decode cL_law 591 = .ok (.iadd, 1) := dk_96 (bs_at BL_law_586 5 rfl)
theorem dL_law_592 : decode cL_law 592 = .ok (.iaload, 1) := dk_46 (bs_at BL_law_586 6 rfl)
theorem dL_law_593 : decode cL_law 593 = .ok (.invokevirtual 80, 3) := dk_182 0 80 (bs_at BL_law_586 7 rfl) rfl
theorem dL_law_596 : decode cL_law 596 = .ok (.pop, 1) := dk_87 (bs_at BL_law_586 8 rfl)
theorem dL_law_597 : decode cL_law 597 = .ok (.goto 513, 3) := dk_167 2 1 (bs_at BL_law_586 9 rfl) rfl
theorem dL_law_600 : decode cL_law 600 = .ok (.aload_n 1, 1) := dk_43 (bs_at BL_law_586 10 rfl)
theorem dL_law_601 : decode cL_law 601 = .ok (.aload_n 0, 1) := dk_42 (bs_at BL_law_586 11 rfl)
theorem dL_law_602 : decode cL_law 602 = .ok (.iload_n 3, 1) := dk_29 (bs_at BL_law_586 12 rfl)
theorem dL_law_603 : decode cL_law 603 = .ok (.iconst 1, 1) := dk_4 (bs_at BL_law_586 13 rfl)
theorem dL_law_604 : decode cL_law 604 = .ok (.iadd, 1) := dk_96 (bs_at BL_law_586 14 rfl)
theorem dL_law_605 : decode cL_law 605 = .ok (.iaload, 1) := dk_46 (bs_at BL_law_586 15 rfl)
theorem dL_law_606 : decode cL_law 606 = .ok (.invokevirtual 81, 3) := dk_182 0 81 (bs_at BL_law_586 16 rfl) rfl
theorem dL_law_609 : decode cL_law 609 = .ok (.aload_n 2, 1) := dk_44 (bs_at BL_law_586 17 rfl)
theorem dL_law_610 : decode cL_law 610 = .ok (.aload_n 0, 1) := dk_42 (bs_at BL_law_586 18 rfl)
theorem dL_law_611 : decode cL_law 611 = .ok (.iload_n 3, 1) := dk_29 (bs_at BL_law_586 19 rfl)
theorem dL_law_612 : decode cL_law 612 = .ok (.iconst 1, 1) := dk_4 (bs_at BL_law_586 20 rfl)
theorem dL_law_613 : decode cL_law 613 = .ok (.iadd, 1) := dk_96 (bs_at BL_law_586 21 rfl)
theorem dL_law_614 : decode cL_law 614 = .ok (.iaload, 1) := dk_46 (bs_at BL_law_586 22 rfl)
theorem dL_law_615 : decode cL_law 615 = .ok (.invokevirtual 84, 3) := dk_182 0 84 (bs_at BL_law_586 23 rfl) rfl
theorem BL_law_618 : bsegs (ByteArray.data cL_law |>.toList.drop 618) 618 [(618, [159, 1, 236]), (623, [43]), (624, [42]), (625, [29]), (626, [4]), (627, [96]), (628, [46]), (629, [42]), (630, [29]), (631, [5]), (632, [96]), (633, [46])] = true := by decide +kernel
theorem dL_law_618 : decode cL_law 618 = .ok (.if_icmp .eq 492, 3) := dk_159 1 236 (bs_at BL_law_618 0 rfl) rfl
theorem dL_law_623 : decode cL_law 623 = .ok (.aload_n 1, 1) := dk_43 (bs_at BL_law_618 1 rfl)
theorem dL_law_624 : decode cL_law 624 = .ok (.aload_n 0, 1) := dk_42 (bs_at BL_law_618 2 rfl)
theorem dL_law_625 : decode cL_law 625 = .ok (.iload_n 3, 1) := dk_29 (bs_at BL_law_618 3 rfl)
theorem dL_law_626 : decode cL_law 626 = .ok (.iconst 1, 1) := dk_4 (bs_at BL_law_618 4 rfl)
theorem dL_law_627 : decode cL_law 627 = .ok (.iadd, 1) := dk_96 (bs_at BL_law_618 5 rfl)
theorem dL_law_628 : decode cL_law 628 = .ok (.iaload, 1) := dk_46 (bs_at BL_law_618 6 rfl)
theorem dL_law_629 : decode cL_law 629 = .ok (.aload_n 0, 1) := dk_42 (bs_at BL_law_618 7 rfl)
theorem dL_law_630 : decode cL_law 630 = .ok (.iload_n 3, 1) := dk_29 (bs_at BL_law_618 8 rfl)
theorem dL_law_631 : decode cL_law 631 = .ok (.iconst 2, 1) := dk_5 (bs_at BL_law_618 9 rfl)
theorem dL_law_632 : decode cL_law 632 = .ok (.iadd, 1) := dk_96 (bs_at BL_law_618 10 rfl)
theorem dL_law_633 : decode cL_law 633 = .ok (.iaload, 1) := dk_46 (bs_at BL_law_618 11 rfl)
