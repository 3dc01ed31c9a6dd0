theorem dk_dX10_init_350 : dz_C cX10_init [(350, .bipush 114, 2), (352, .castore, 1), (353, .putfield 54, 3), (356, .aload_n 0, 1), (357, .iconst 3, 1), (358, .newarray .char, 2), (360, .dup, 1), (361, .iconst 0, 1), (362, .bipush 114, 2), (364, .castore, 1), (365, .dup, 1), (366, .iconst 1, 1), (367, .bipush 101, 2), (369, .castore, 1), (370, .dup, 1), (371, .iconst 2, 1)] := dz_of (by decide +kernel)
theorem dX10_init_350 : decode cX10_init 350 = .ok (.bipush 114, 2) := dk_dX10_init_350.1
theorem dX10_init_352 : decode cX10_init 352 = .ok (.castore, 1) := dk_dX10_init_350.2.1
theorem dX10_init_353 : decode cX10_init 353 = .ok (.putfield 54, 3) := dk_dX10_init_350.2.2.1
theorem dX10_init_356 : decode cX10_init 356 = .ok (.aload_n 0, 1) := dk_dX10_init_350.2.2.2.1
theorem dX10_init_357 : decode cX10_init 357 = .ok (.iconst 3, 1) := dk_dX10_init_350.2.2.2.2.1
theorem dX10_init_358 : decode cX10_init 358 = .ok (.newarray .char, 2) := dk_dX10_init_350.2.2.2.2.2.1
theorem dX10_init_360 : decode cX10_init 360 = .ok (.dup, 1) := dk_dX10_init_350.2.2.2.2.2.2.1
theorem dX10_init_361 : decode cX10_init 361 = .ok (.iconst 0, 1) := dk_dX10_init_350.2.2.2.2.2.2.2.1
theorem dk_dX10_init_350_8 : dz_C cX10_init [(362, .bipush 114, 2), (364, .castore, 1), (365, .dup, 1), (366, .iconst 1, 1), (367, .bipush 101, 2), (369, .castore, 1), (370, .dup, 1), (371, .iconst 2, 1)] := dk_dX10_init_350.2.2.2.2.2.2.2.2
theorem dX10_init_362 : decode cX10_init 362 = .ok (.bipush 114, 2) := dk_dX10_init_350_8.1
theorem dX10_init_364 : decode cX10_init 364 = .ok (.castore, 1) := dk_dX10_init_350_8.2.1
theorem dX10_init_365 : decode cX10_init 365 = .ok (.dup, 1) := dk_dX10_init_350_8.2.2.1
theorem dX10_init_366 : decode cX10_init 366 = .ok (.iconst 1, 1) := dk_dX10_init_350_8.2.2.2.1
theorem dX10_init_367 : decode cX10_init 367 = .ok (.bipush 101, 2) := dk_dX10_init_350_8.2.2.2.2.1
theorem dX10_init_369 : decode cX10_init 369 = .ok (.castore, 1) := dk_dX10_init_350_8.2.2.2.2.2.1
theorem dX10_init_370 : decode cX10_init 370 = .ok (.dup, 1) := dk_dX10_init_350_8.2.2.2.2.2.2.1
theorem dX10_init_371 : decode cX10_init 371 = .ok (.iconst 2, 1) := dk_dX10_init_350_8.2.2.2.2.2.2.2.1
theorem dk_dX10_init_372 : dz_C cX10_init [(372, .bipush 100, 2), (374, .castore, 1), (375, .putfield 57, 3), (378, .aload_n 0, 1), (379, .bipush 6, 2), (381, .newarray .char, 2), (383, .dup, 1), (384, .iconst 0, 1), (385, .bipush 108, 2), (387, .castore, 1), (388, .dup, 1), (389, .iconst 1, 1), (390, .bipush 101, 2), (392, .castore, 1), (393, .dup, 1), (394, .iconst 2, 1)] := dz_of (by decide +kernel)
theorem dX10_init_372 : decode cX10_init 372 = .ok (.bipush 100, 2) := dk_dX10_init_372.1
theorem dX10_init_374 : decode cX10_init 374 = .ok (.castore, 1) := dk_dX10_init_372.2.1
theorem dX10_init_375 : decode cX10_init 375 = .ok (.putfield 57, 3) := dk_dX10_init_372.2.2.1
theorem dX10_init_378 : decode cX10_init 378 = .ok (.aload_n 0, 1) := dk_dX10_init_372.2.2.2.1
theorem dX10_init_379 : decode cX10_init 379 = .ok (.bipush 6, 2) := dk_dX10_init_372.2.2.2.2.1
theorem dX10_init_381 : decode cX10_init 381 = .ok (.newarray .char, 2) := dk_dX10_init_372.2.2.2.2.2.1
theorem dX10_init_383 : decode cX10_init 383 = .ok (.dup, 1) := dk_dX10_init_372.2.2.2.2.2.2.1
theorem dX10_init_384 : decode cX10_init 384 = .ok (.iconst 0, 1) := dk_dX10_init_372.2.2.2.2.2.2.2.1
theorem dk_dX10_init_372_8 : dz_C cX10_init [(385, .bipush 108, 2), (387, .castore, 1), (388, .dup, 1), (389, .iconst 1, 1), (390, .bipush 101, 2), (392, .castore, 1), (393, .dup, 1), (394, .iconst 2, 1)] := dk_dX10_init_372.2.2.2.2.2.2.2.2
theorem dX10_init_385 : decode cX10_init 385 = .ok (.bipush 108, 2) := dk_dX10_init_372_8.1
theorem dX10_init_387 : decode cX10_init 387 = .ok (.castore, 1) := dk_dX10_init_372_8.2.1
theorem dX10_init_388 : decode cX10_init 388 = .ok (.dup, 1) := dk_dX10_init_372_8.2.2.1
theorem dX10_init_389 : decode cX10_init 389 = .ok (.iconst 1, 1) := dk_dX10_init_372_8.2.2.2.1
theorem dX10_init_390 : decode cX10_init 390 = .ok (.bipush 101, 2) := dk_dX10_init_372_8.2.2.2.2.1
theorem dX10_init_392 : decode cX10_init 392 = .ok (.castore, 1) := dk_dX10_init_372_8.2.2.2.2.2.1
theorem dX10_init_393 : decode cX10_init 393 = .ok (.dup, 1) := dk_dX10_init_372_8.2.2.2.2.2.2.1
theorem dX10_init_394 : decode cX10_init 394 = .ok (.iconst 2, 1) := dk_dX10_init_372_8.2.2.2.2.2.2.2.1
theorem dk_dX10_init_395 : dz_C cX10_init [(395, .bipush 97, 2), (397, .castore, 1), (398, .dup, 1), (399, .iconst 3, 1), (400, .bipush 114, 2), (402, .castore, 1), (403, .dup, 1), (404, .iconst 4, 1), (405, .bipush 110, 2), (407, .castore, 1), (408, .dup, 1), (409, .iconst 5, 1), (410, .bipush 115, 2), (412, .castore, 1), (413, .putfield 60, 3), (416, .aload_n 0, 1)] := dz_of (by decide +kernel)
theorem dX10_init_395 : decode cX10_init 395 = .ok (.bipush 97, 2) := dk_dX10_init_395.1
theorem dX10_init_397 : decode cX10_init 397 = .ok (.castore, 1) := dk_dX10_init_395.2.1
theorem dX10_init_398 : decode cX10_init 398 = .ok (.dup, 1) := dk_dX10_init_395.2.2.1
theorem dX10_init_399 : decode cX10_init 399 = .ok (.iconst 3, 1) := dk_dX10_init_395.2.2.2.1
theorem dX10_init_400 : decode cX10_init 400 = .ok (.bipush 114, 2) := dk_dX10_init_395.2.2.2.2.1
theorem dX10_init_402 : decode cX10_init 402 = .ok (.castore, 1) := dk_dX10_init_395.2.2.2.2.2.1
theorem dX10_init_403 : decode cX10_init 403 = .ok (.dup, 1) := dk_dX10_init_395.2.2.2.2.2.2.1
theorem dX10_init_404 : decode cX10_init 404 = .ok (.iconst 4, 1) := dk_dX10_init_395.2.2.2.2.2.2.2.1
theorem dk_dX10_init_395_8 : dz_C cX10_init [(405, .bipush 110, 2), (407, .castore, 1), (408, .dup, 1), (409, .iconst 5, 1), (410, .bipush 115, 2), (412, .castore, 1), (413, .putfield 60, 3), (416, .aload_n 0, 1)] := dk_dX10_init_395.2.2.2.2.2.2.2.2
theorem dX10_init_405 : decode cX10_init 405 = .ok (.bipush 110, 2) := dk_dX10_init_395_8.1
theorem dX10_init_407 : decode cX10_init 407 = .ok (.castore, 1) := dk_dX10_init_395_8.2.1
theorem dX10_init_408 : decode cX10_init 408 = .ok (.dup, 1) := dk_dX10_init_395_8.2.2.1
theorem dX10_init_409 : decode cX10_init 409 = .ok (.iconst 5, 1) := dk_dX10_init_395_8.2.2.2.1
theorem dX10_init_410 : decode cX10_init 410 = .ok (.bipush 115, 2) := dk_dX10_init_395_8.2.2.2.2.1
theorem dX10_init_412 : decode cX10_init 412 = .ok (.castore, 1) := dk_dX10_init_395_8.2.2.2.2.2.1
theorem dX10_init_413 : decode cX10_init 413 = .ok (.putfield 60, 3) := dk_dX10_init_395_8.2.2.2.2.2.2.1
theorem dX10_init_416 : decode cX10_init 416 = .ok (.aload_n 0, 1) := dk_dX10_init_395_8.2.2.2.2.2.2.2.1
theorem dk_dX10_init_417 : dz_C cX10_init [(417, .iconst 4, 1), (418, .newarray .char, 2), (420, .dup, 1), (421, .iconst 0, 1), (422, .bipush 97, 2), (424, .castore, 1), (425, .dup, 1), (426, .iconst 1, 1), (427, .bipush 119, 2), (429, .castore, 1), (430, .dup, 1), (431, .iconst 2, 1), (432, .bipush 97, 2), (434, .castore, 1), (435, .dup, 1), (436, .iconst 3, 1)] := dz_of (by decide +kernel)
theorem dX10_init_417 : decode cX10_init 417 = .ok (.iconst 4, 1) := dk_dX10_init_417.1
theorem dX10_init_418 : decode cX10_init 418 = .ok (.newarray .char, 2) := dk_dX10_init_417.2.1
theorem dX10_init_420 : decode cX10_init 420 = .ok (.dup, 1) := dk_dX10_init_417.2.2.1
theorem dX10_init_421 : decode cX10_init 421 = .ok (.iconst 0, 1) := dk_dX10_init_417.2.2.2.1
theorem dX10_init_422 : decode cX10_init 422 = .ok (.bipush 97, 2) := dk_dX10_init_417.2.2.2.2.1
theorem dX10_init_424 : decode cX10_init 424 = .ok (.castore, 1) := dk_dX10_init_417.2.2.2.2.2.1
theorem dX10_init_425 : decode cX10_init 425 = .ok (.dup, 1) := dk_dX10_init_417.2.2.2.2.2.2.1
theorem dX10_init_426 : decode cX10_init 426 = .ok (.iconst 1, 1) := dk_dX10_init_417.2.2.2.2.2.2.2.1
theorem dk_dX10_init_417_8 : dz_C cX10_init [(427, .bipush 119, 2), (429, .castore, 1), (430, .dup, 1), (431, .iconst 2, 1), (432, .bipush 97, 2), (434, .castore, 1), (435, .dup, 1), (436, .iconst 3, 1)] := dk_dX10_init_417.2.2.2.2.2.2.2.2
theorem dX10_init_427 : decode cX10_init 427 = .ok (.bipush 119, 2) := dk_dX10_init_417_8.1
theorem dX10_init_429 : decode cX10_init 429 = .ok (.castore, 1) := dk_dX10_init_417_8.2.1
theorem dX10_init_430 : decode cX10_init 430 = .ok (.dup, 1) := dk_dX10_init_417_8.2.2.1
theorem dX10_init_431 : decode cX10_init 431 = .ok (.iconst 2, 1) := dk_dX10_init_417_8.2.2.2.1
theorem dX10_init_432 : decode cX10_init 432 = .ok (.bipush 97, 2) := dk_dX10_init_417_8.2.2.2.2.1
theorem dX10_init_434 : decode cX10_init 434 = .ok (.castore, 1) := dk_dX10_init_417_8.2.2.2.2.2.1
theorem dX10_init_435 : decode cX10_init 435 = .ok (.dup, 1) := dk_dX10_init_417_8.2.2.2.2.2.2.1
theorem dX10_init_436 : decode cX10_init 436 = .ok (.iconst 3, 1) := dk_dX10_init_417_8.2.2.2.2.2.2.2.1
theorem dk_dX10_init_437 : dz_C cX10_init [(437, .bipush 121, 2), (439, .castore, 1), (440, .putfield 63, 3), (443, .aload_n 0, 1), (444, .bipush 6, 2), (446, .newarray .char, 2), (448, .dup, 1), (449, .iconst 0, 1), (450, .bipush 115, 2), (452, .castore, 1), (453, .dup, 1), (454, .iconst 1, 1), (455, .bipush 101, 2), (457, .castore, 1), (458, .dup, 1), (459, .iconst 2, 1)] := dz_of (by decide +kernel)
theorem dX10_init_437 : decode cX10_init 437 = .ok (.bipush 121, 2) := dk_dX10_init_437.1
theorem dX10_init_439 : decode cX10_init 439 = .ok (.castore, 1) := dk_dX10_init_437.2.1
theorem dX10_init_440 : decode cX10_init 440 = .ok (.putfield 63, 3) := dk_dX10_init_437.2.2.1
theorem dX10_init_443 : decode cX10_init 443 = .ok (.aload_n 0, 1) := dk_dX10_init_437.2.2.2.1
theorem dX10_init_444 : decode cX10_init 444 = .ok (.bipush 6, 2) := dk_dX10_init_437.2.2.2.2.1
theorem dX10_init_446 : decode cX10_init 446 = .ok (.newarray .char, 2) := dk_dX10_init_437.2.2.2.2.2.1
theorem dX10_init_448 : decode cX10_init 448 = .ok (.dup, 1) := dk_dX10_init_437.2.2.2.2.2.2.1
theorem dX10_init_449 : decode cX10_init 449 = .ok (.iconst 0, 1) := dk_dX10_init_437.2.2.2.2.2.2.2.1
theorem dk_dX10_init_437_8 : dz_C cX10_init [(450, .bipush 115, 2), (452, .castore, 1), (453, .dup, 1), (454, .iconst 1, 1), (455, .bipush 101, 2), (457, .castore, 1), (458, .dup, 1), (459, .iconst 2, 1)] := dk_dX10_init_437.2.2.2.2.2.2.2.2
theorem dX10_init_450 : decode cX10_init 450 = .ok (.bipush 115, 2) := dk_dX10_init_437_8.1
theorem dX10_init_452 : decode cX10_init 452 = .ok (.castore, 1) := dk_dX10_init_437_8.2.1
theorem dX10_init_453 : decode cX10_init 453 = .ok (.dup, 1) := dk_dX10_init_437_8.2.2.1
theorem dX10_init_454 : decode cX10_init 454 = .ok (.iconst 1, 1) := dk_dX10_init_437_8.2.2.2.1
theorem dX10_init_455 : decode cX10_init 455 = .ok (.bipush 101, 2) := dk_dX10_init_437_8.2.2.2.2.1
theorem dX10_init_457 : decode cX10_init 457 = .ok (.castore, 1) := dk_dX10_init_437_8.2.2.2.2.2.1
theorem dX10_init_458 : decode cX10_init 458 = .ok (.dup, 1) := dk_dX10_init_437_8.2.2.2.2.2.2.1
theorem dX10_init_459 : decode cX10_init 459 = .ok (.iconst 2, 1) := dk_dX10_init_437_8.2.2.2.2.2.2.2.1
theorem dk_dX10_init_460 : dz_C cX10_init [(460, .bipush 99, 2), (462, .castore, 1), (463, .dup, 1), (464, .iconst 3, 1), (465, .bipush 111, 2), (467, .castore, 1), (468, .dup, 1), (469, .iconst 4, 1), (470, .bipush 110, 2), (472, .castore, 1), (473, .dup, 1), (474, .iconst 5, 1), (475, .bipush 100, 2), (477, .castore, 1), (478, .putfield 66, 3), (481, .aload_n 0, 1)] := dz_of (by decide +kernel)
theorem dX10_init_460 : decode cX10_init 460 = .ok (.bipush 99, 2) := dk_dX10_init_460.1
theorem dX10_init_462 : decode cX10_init 462 = .ok (.castore, 1) := dk_dX10_init_460.2.1
theorem dX10_init_463 : decode cX10_init 463 = .ok (.dup, 1) := dk_dX10_init_460.2.2.1
theorem dX10_init_464 : decode cX10_init 464 = .ok (.iconst 3, 1) := dk_dX10_init_460.2.2.2.1
theorem dX10_init_465 : decode cX10_init 465 = .ok (.bipush 111, 2) := dk_dX10_init_460.2.2.2.2.1
theorem dX10_init_467 : decode cX10_init 467 = .ok (.castore, 1) := dk_dX10_init_460.2.2.2.2.2.1
theorem dX10_init_468 : decode cX10_init 468 = .ok (.dup, 1) := dk_dX10_init_460.2.2.2.2.2.2.1
theorem dX10_init_469 : decode cX10_init 469 = .ok (.iconst 4, 1) := dk_dX10_init_460.2.2.2.2.2.2.2.1
theorem dk_dX10_init_460_8 : dz_C cX10_init [(470, .bipush 110, 2), (472, .castore, 1), (473, .dup, 1), (474, .iconst 5, 1), (475, .bipush 100, 2), (477, .castore, 1), (478, .putfield 66, 3), (481, .aload_n 0, 1)] := dk_dX10_init_460.2.2.2.2.2.2.2.2
theorem dX10_init_470 : decode cX10_init 470 = .ok (.bipush 110, 2) := dk_dX10_init_460_8.1
theorem dX10_init_472 : decode cX10_init 472 = .ok (.castore, 1) := dk_dX10_init_460_8.2.1
theorem dX10_init_473 : decode cX10_init 473 = .ok (.dup, 1) := dk_dX10_init_460_8.2.2.1
theorem dX10_init_474 : decode cX10_init 474 = .ok (.iconst 5, 1) := dk_dX10_init_460_8.2.2.2.1
theorem dX10_init_475 : decode cX10_init 475 = .ok (.bipush 100, 2) := dk_dX10_init_460_8.2.2.2.2.1
theorem dX10_init_477 : decode cX10_init 477 = .ok (.castore, 1) := dk_dX10_init_460_8.2.2.2.2.2.1
theorem dX10_init_478 : decode cX10_init 478 = .ok (.putfield 66, 3) := dk_dX10_init_460_8.2.2.2.2.2.2.1
theorem dX10_init_481 : decode cX10_init 481 = .ok (.aload_n 0, 1) := dk_dX10_init_460_8.2.2.2.2.2.2.2.1
theorem dk_dX10_init_482 : dz_C cX10_init [(482, .iconst 3, 1), (483, .newarray .char, 2), (485, .dup, 1), (486, .iconst 0, 1), (487, .bipush 100, 2), (489, .castore, 1), (490, .dup, 1), (491, .iconst 1, 1), (492, .bipush 97, 2), (494, .castore, 1), (495, .dup, 1), (496, .iconst 2, 1), (497, .bipush 121, 2), (499, .castore, 1), (500, .putfield 69, 3), (503, .aload_n 0, 1)] := dz_of (by decide +kernel)
theorem dX10_init_482 : decode cX10_init 482 = .ok (.iconst 3, 1) := dk_dX10_init_482.1
theorem dX10_init_483 : decode cX10_init 483 = .ok (.newarray .char, 2) := dk_dX10_init_482.2.1
theorem dX10_init_485 : decode cX10_init 485 = .ok (.dup, 1) := dk_dX10_init_482.2.2.1
theorem dX10_init_486 : decode cX10_init 486 = .ok (.iconst 0, 1) := dk_dX10_init_482.2.2.2.1
theorem dX10_init_487 : decode cX10_init 487 = .ok (.bipush 100, 2) := dk_dX10_init_482.2.2.2.2.1
theorem dX10_init_489 : decode cX10_init 489 = .ok (.castore, 1) := dk_dX10_init_482.2.2.2.2.2.1
theorem dX10_init_490 : decode cX10_init 490 = .ok (.dup, 1) := dk_dX10_init_482.2.2.2.2.2.2.1
theorem dX10_init_491 : decode cX10_init 491 = .ok (.iconst 1, 1) := dk_dX10_init_482.2.2.2.2.2.2.2.1
theorem dk_dX10_init_482_8 : dz_C cX10_init [(492, .bipush 97, 2), (494, .castore, 1), (495, .dup, 1), (496, .iconst 2, 1), (497, .bipush 121, 2), (499, .castore, 1), (500, .putfield 69, 3), (503, .aload_n 0, 1)] := dk_dX10_init_482.2.2.2.2.2.2.2.2
theorem dX10_init_492 : decode cX10_init 492 = .ok (.bipush 97, 2) := dk_dX10_init_482_8.1
theorem dX10_init_494 : decode cX10_init 494 = .ok (.castore, 1) := dk_dX10_init_482_8.2.1
theorem dX10_init_495 : decode cX10_init 495 = .ok (.dup, 1) := dk_dX10_init_482_8.2.2.1
theorem dX10_init_496 : decode cX10_init 496 = .ok (.iconst 2, 1) := dk_dX10_init_482_8.2.2.2.1
theorem dX10_init_497 : decode cX10_init 497 = .ok (.bipush 121, 2) := dk_dX10_init_482_8.2.2.2.2.1
theorem dX10_init_499 : decode cX10_init 499 = .ok (.castore, 1) := dk_dX10_init_482_8.2.2.2.2.2.1
theorem dX10_init_500 : decode cX10_init 500 = .ok (.putfield 69, 3) := dk_dX10_init_482_8.2.2.2.2.2.2.1
theorem dX10_init_503 : decode cX10_init 503 = .ok (.aload_n 0, 1) := dk_dX10_init_482_8.2.2.2.2.2.2.2.1
theorem dk_dX10_init_504 : dz_C cX10_init [(504, .iconst 5, 1), (505, .newarray .char, 2), (507, .dup, 1), (508, .iconst 0, 1), (509, .bipush 112, 2), (511, .castore, 1), (512, .dup, 1), (513, .iconst 1, 1), (514, .bipush 104, 2), (516, .castore, 1), (517, .dup, 1), (518, .iconst 2, 1), (519, .bipush 97, 2), (521, .castore, 1), (522, .dup, 1), (523, .iconst 3, 1)] := dz_of (by decide +kernel)
theorem dX10_init_504 : decode cX10_init 504 = .ok (.iconst 5, 1) := dk_dX10_init_504.1
theorem dX10_init_505 : decode cX10_init 505 = .ok (.newarray .char, 2) := dk_dX10_init_504.2.1
theorem dX10_init_507 : decode cX10_init 507 = .ok (.dup, 1) := dk_dX10_init_504.2.2.1
theorem dX10_init_508 : decode cX10_init 508 = .ok (.iconst 0, 1) := dk_dX10_init_504.2.2.2.1
theorem dX10_init_509 : decode cX10_init 509 = .ok (.bipush 112, 2) := dk_dX10_init_504.2.2.2.2.1
theorem dX10_init_511 : decode cX10_init 511 = .ok (.castore, 1) := dk_dX10_init_504.2.2.2.2.2.1
theorem dX10_init_512 : decode cX10_init 512 = .ok (.dup, 1) := dk_dX10_init_504.2.2.2.2.2.2.1
theorem dX10_init_513 : decode cX10_init 513 = .ok (.iconst 1, 1) := dk_dX10_init_504.2.2.2.2.2.2.2.1
theorem dk_dX10_init_504_8 : dz_C cX10_init [(514, .bipush 104, 2), (516, .castore, 1), (517, .dup, 1), (518, .iconst 2, 1), (519, .bipush 97, 2), (521, .castore, 1), (522, .dup, 1), (523, .iconst 3, 1)] := dk_dX10_init_504.2.2.2.2.2.2.2.2
theorem dX10_init_514 : decode cX10_init 514 = .ok (.bipush 104, 2) := dk_dX10_init_504_8.1
theorem dX10_init_516 : decode cX10_init 516 = .ok (.castore, 1) := dk_dX10_init_504_8.2.1
theorem dX10_init_517 : decode cX10_init 517 = .ok (.dup, 1) := dk_dX10_init_504_8.2.2.1
theorem dX10_init_518 : decode cX10_init 518 = .ok (.iconst 2, 1) := dk_dX10_init_504_8.2.2.2.1
theorem dX10_init_519 : decode cX10_init 519 = .ok (.bipush 97, 2) := dk_dX10_init_504_8.2.2.2.2.1
theorem dX10_init_521 : decode cX10_init 521 = .ok (.castore, 1) := dk_dX10_init_504_8.2.2.2.2.2.1
theorem dX10_init_522 : decode cX10_init 522 = .ok (.dup, 1) := dk_dX10_init_504_8.2.2.2.2.2.2.1
theorem dX10_init_523 : decode cX10_init 523 = .ok (.iconst 3, 1) := dk_dX10_init_504_8.2.2.2.2.2.2.2.1
theorem dk_dX10_init_524 : dz_C cX10_init [(524, .bipush 115, 2), (526, .castore, 1), (527, .dup, 1), (528, .iconst 4, 1), (529, .bipush 101, 2), (531, .castore, 1), (532, .putfield 72, 3), (535, .aload_n 0, 1), (536, .bipush 6, 2), (538, .newarray .char, 2), (540, .dup, 1), (541, .iconst 0, 1), (542, .bipush 119, 2), (544, .castore, 1), (545, .dup, 1), (546, .iconst 1, 1)] := dz_of (by decide +kernel)
theorem dX10_init_524 : decode cX10_init 524 = .ok (.bipush 115, 2) := dk_dX10_init_524.1
theorem dX10_init_526 : decode cX10_init 526 = .ok (.castore, 1) := dk_dX10_init_524.2.1
theorem dX10_init_527 : decode cX10_init 527 = .ok (.dup, 1) := dk_dX10_init_524.2.2.1
theorem dX10_init_528 : decode cX10_init 528 = .ok (.iconst 4, 1) := dk_dX10_init_524.2.2.2.1
theorem dX10_init_529 : decode cX10_init 529 = .ok (.bipush 101, 2) := dk_dX10_init_524.2.2.2.2.1
theorem dX10_init_531 : decode cX10_init 531 = .ok (.castore, 1) := dk_dX10_init_524.2.2.2.2.2.1
theorem dX10_init_532 : decode cX10_init 532 = .ok (.putfield 72, 3) := dk_dX10_init_524.2.2.2.2.2.2.1
theorem dX10_init_535 : decode cX10_init 535 = .ok (.aload_n 0, 1) := dk_dX10_init_524.2.2.2.2.2.2.2.1
theorem dk_dX10_init_524_8 : dz_C cX10_init [(536, .bipush 6, 2), (538, .newarray .char, 2), (540, .dup, 1), (541, .iconst 0, 1), (542, .bipush 119, 2), (544, .castore, 1), (545, .dup, 1), (546, .iconst 1, 1)] := dk_dX10_init_524.2.2.2.2.2.2.2.2
theorem dX10_init_536 : decode cX10_init 536 = .ok (.bipush 6, 2) := dk_dX10_init_524_8.1
theorem dX10_init_538 : decode cX10_init 538 = .ok (.newarray .char, 2) := dk_dX10_init_524_8.2.1
theorem dX10_init_540 : decode cX10_init 540 = .ok (.dup, 1) := dk_dX10_init_524_8.2.2.1
theorem dX10_init_541 : decode cX10_init 541 = .ok (.iconst 0, 1) := dk_dX10_init_524_8.2.2.2.1
theorem dX10_init_542 : decode cX10_init 542 = .ok (.bipush 119, 2) := dk_dX10_init_524_8.2.2.2.2.1
theorem dX10_init_544 : decode cX10_init 544 = .ok (.castore, 1) := dk_dX10_init_524_8.2.2.2.2.2.1
theorem dX10_init_545 : decode cX10_init 545 = .ok (.dup, 1) := dk_dX10_init_524_8.2.2.2.2.2.2.1
theorem dX10_init_546 : decode cX10_init 546 = .ok (.iconst 1, 1) := dk_dX10_init_524_8.2.2.2.2.2.2.2.1
theorem dk_dX10_init_547 : dz_C cX10_init [(547, .bipush 97, 2), (549, .castore, 1), (550, .dup, 1), (551, .iconst 2, 1), (552, .bipush 105, 2), (554, .castore, 1), (555, .dup, 1), (556, .iconst 3, 1), (557, .bipush 116, 2), (559, .castore, 1), (560, .dup, 1), (561, .iconst 4, 1), (562, .bipush 101, 2), (564, .castore, 1), (565, .dup, 1), (566, .iconst 5, 1)] := dz_of (by decide +kernel)
theorem dX10_init_547 : decode cX10_init 547 = .ok (.bipush 97, 2) := dk_dX10_init_547.1
theorem dX10_init_549 : decode cX10_init 549 = .ok (.castore, 1) := dk_dX10_init_547.2.1
theorem dX10_init_550 : decode cX10_init 550 = .ok (.dup, 1) := dk_dX10_init_547.2.2.1
theorem dX10_init_551 : decode cX10_init 551 = .ok (.iconst 2, 1) := dk_dX10_init_547.2.2.2.1
theorem dX10_init_552 : decode cX10_init 552 = .ok (.bipush 105, 2) := dk_dX10_init_547.2.2.2.2.1
theorem dX10_init_554 : decode cX10_init 554 = .ok (.castore, 1) := dk_dX10_init_547.2.2.2.2.2.1
theorem dX10_init_555 : decode cX10_init 555 = .ok (.dup, 1) := dk_dX10_init_547.2.2.2.2.2.2.1
theorem dX10_init_556 : decode cX10_init 556 = .ok (.iconst 3, 1) := dk_dX10_init_547.2.2.2.2.2.2.2.1
theorem dk_dX10_init_547_8 : dz_C cX10_init [(557, .bipush 116, 2), (559, .castore, 1), (560, .dup, 1), (561, .iconst 4, 1), (562, .bipush 101, 2), (564, .castore, 1), (565, .dup, 1), (566, .iconst 5, 1)] := dk_dX10_init_547.2.2.2.2.2.2.2.2
theorem dX10_init_557 : decode cX10_init 557 = .ok (.bipush 116, 2) := dk_dX10_init_547_8.1
theorem dX10_init_559 : decode cX10_init 559 = .ok (.castore, 1) := dk_dX10_init_547_8.2.1
theorem dX10_init_560 : decode cX10_init 560 = .ok (.dup, 1) := dk_dX10_init_547_8.2.2.1
theorem dX10_init_561 : decode cX10_init 561 = .ok (.iconst 4, 1) := dk_dX10_init_547_8.2.2.2.1
theorem dX10_init_562 : decode cX10_init 562 = .ok (.bipush 101, 2) := dk_dX10_init_547_8.2.2.2.2.1
theorem dX10_init_564 : decode cX10_init 564 = .ok (.castore, 1) := dk_dX10_init_547_8.2.2.2.2.2.1
theorem dX10_init_565 : decode cX10_init 565 = .ok (.dup, 1) := dk_dX10_init_547_8.2.2.2.2.2.2.1
theorem dX10_init_566 : decode cX10_init 566 = .ok (.iconst 5, 1) := dk_dX10_init_547_8.2.2.2.2.2.2.2.1
theorem dk_dX10_init_567 : dz_C cX10_init [(567, .bipush 100, 2), (569, .castore, 1), (570, .putfield 75, 3), (573, .aload_n 0, 1), (574, .iconst 3, 1), (575, .newarray .char, 2), (577, .dup, 1), (578, .iconst 0, 1), (579, .bipush 103, 2), (581, .castore, 1), (582, .dup, 1), (583, .iconst 1, 1), (584, .bipush 97, 2), (586, .castore, 1), (587, .dup, 1), (588, .iconst 2, 1)] := dz_of (by decide +kernel)
theorem dX10_init_567 : decode cX10_init 567 = .ok (.bipush 100, 2) := dk_dX10_init_567.1
theorem dX10_init_569 : decode cX10_init 569 = .ok (.castore, 1) := dk_dX10_init_567.2.1
theorem dX10_init_570 : decode cX10_init 570 = .ok (.putfield 75, 3) := dk_dX10_init_567.2.2.1
theorem dX10_init_573 : decode cX10_init 573 = .ok (.aload_n 0, 1) := dk_dX10_init_567.2.2.2.1
theorem dX10_init_574 : decode cX10_init 574 = .ok (.iconst 3, 1) := dk_dX10_init_567.2.2.2.2.1
theorem dX10_init_575 : decode cX10_init 575 = .ok (.newarray .char, 2) := dk_dX10_init_567.2.2.2.2.2.1
theorem dX10_init_577 : decode cX10_init 577 = .ok (.dup, 1) := dk_dX10_init_567.2.2.2.2.2.2.1
theorem dX10_init_578 : decode cX10_init 578 = .ok (.iconst 0, 1) := dk_dX10_init_567.2.2.2.2.2.2.2.1
theorem dk_dX10_init_567_8 : dz_C cX10_init [(579, .bipush 103, 2), (581, .castore, 1), (582, .dup, 1), (583, .iconst 1, 1), (584, .bipush 97, 2), (586, .castore, 1), (587, .dup, 1), (588, .iconst 2, 1)] := dk_dX10_init_567.2.2.2.2.2.2.2.2
theorem dX10_init_579 : decode cX10_init 579 = .ok (.bipush 103, 2) := dk_dX10_init_567_8.1
theorem dX10_init_581 : decode cX10_init 581 = .ok (.castore, 1) := dk_dX10_init_567_8.2.1
theorem dX10_init_582 : decode cX10_init 582 = .ok (.dup, 1) := dk_dX10_init_567_8.2.2.1
theorem dX10_init_583 : decode cX10_init 583 = .ok (.iconst 1, 1) := dk_dX10_init_567_8.2.2.2.1
theorem dX10_init_584 : decode cX10_init 584 = .ok (.bipush 97, 2) := dk_dX10_init_567_8.2.2.2.2.1
theorem dX10_init_586 : decode cX10_init 586 = .ok (.castore, 1) := dk_dX10_init_567_8.2.2.2.2.2.1
theorem dX10_init_587 : decode cX10_init 587 = .ok (.dup, 1) := dk_dX10_init_567_8.2.2.2.2.2.2.1
theorem dX10_init_588 : decode cX10_init 588 = .ok (.iconst 2, 1) := dk_dX10_init_567_8.2.2.2.2.2.2.2.1
theorem dk_dX10_init_589 : dz_C cX10_init [(589, .bipush 112, 2), (591, .castore, 1), (592, .putfield 78, 3), (595, .aload_n 0, 1), (596, .iconst 4, 1), (597, .newarray .char, 2), (599, .dup, 1), (600, .iconst 0, 1), (601, .bipush 114, 2), (603, .castore, 1), (604, .dup, 1), (605, .iconst 1, 1), (606, .bipush 101, 2), (608, .castore, 1), (609, .dup, 1), (610, .iconst 2, 1)] := dz_of (by decide +kernel)
theorem dX10_init_589 : decode cX10_init 589 = .ok (.bipush 112, 2) := dk_dX10_init_589.1
theorem dX10_init_591 : decode cX10_init 591 = .ok (.castore, 1) := dk_dX10_init_589.2.1
theorem dX10_init_592 : decode cX10_init 592 = .ok (.putfield 78, 3) := dk_dX10_init_589.2.2.1
theorem dX10_init_595 : decode cX10_init 595 = .ok (.aload_n 0, 1) := dk_dX10_init_589.2.2.2.1
theorem dX10_init_596 : decode cX10_init 596 = .ok (.iconst 4, 1) := dk_dX10_init_589.2.2.2.2.1
theorem dX10_init_597 : decode cX10_init 597 = .ok (.newarray .char, 2) := dk_dX10_init_589.2.2.2.2.2.1
theorem dX10_init_599 : decode cX10_init 599 = .ok (.dup, 1) := dk_dX10_init_589.2.2.2.2.2.2.1
theorem dX10_init_600 : decode cX10_init 600 = .ok (.iconst 0, 1) := dk_dX10_init_589.2.2.2.2.2.2.2.1
theorem dk_dX10_init_589_8 : dz_C cX10_init [(601, .bipush 114, 2), (603, .castore, 1), (604, .dup, 1), (605, .iconst 1, 1), (606, .bipush 101, 2), (608, .castore, 1), (609, .dup, 1), (610, .iconst 2, 1)] := dk_dX10_init_589.2.2.2.2.2.2.2.2
theorem dX10_init_601 : decode cX10_init 601 = .ok (.bipush 114, 2) := dk_dX10_init_589_8.1
theorem dX10_init_603 : decode cX10_init 603 = .ok (.castore, 1) := dk_dX10_init_589_8.2.1
theorem dX10_init_604 : decode cX10_init 604 = .ok (.dup, 1) := dk_dX10_init_589_8.2.2.1
theorem dX10_init_605 : decode cX10_init 605 = .ok (.iconst 1, 1) := dk_dX10_init_589_8.2.2.2.1
theorem dX10_init_606 : decode cX10_init 606 = .ok (.bipush 101, 2) := dk_dX10_init_589_8.2.2.2.2.1
theorem dX10_init_608 : decode cX10_init 608 = .ok (.castore, 1) := dk_dX10_init_589_8.2.2.2.2.2.1
theorem dX10_init_609 : decode cX10_init 609 = .ok (.dup, 1) := dk_dX10_init_589_8.2.2.2.2.2.2.1
theorem dX10_init_610 : decode cX10_init 610 = .ok (.iconst 2, 1) := dk_dX10_init_589_8.2.2.2.2.2.2.2.1
theorem dk_dX10_init_611 : dz_C cX10_init [(611, .bipush 100, 2), (613, .castore, 1), (614, .dup, 1), (615, .iconst 3, 1), (616, .bipush 115, 2), (618, .castore, 1), (619, .putfield 81, 3), (622, .aload_n 0, 1), (623, .bipush 6, 2), (625, .newarray .char, 2), (627, .dup, 1), (628, .iconst 0, 1), (629, .bipush 110, 2), (631, .castore, 1), (632, .dup, 1), (633, .iconst 1, 1)] := dz_of (by decide +kernel)
theorem dX10_init_611 : decode cX10_init 611 = .ok (.bipush 100, 2) := dk_dX10_init_611.1
theorem dX10_init_613 : decode cX10_init 613 = .ok (.castore, 1) := dk_dX10_init_611.2.1
theorem dX10_init_614 : decode cX10_init 614 = .ok (.dup, 1) := dk_dX10_init_611.2.2.1
theorem dX10_init_615 : decode cX10_init 615 = .ok (.iconst 3, 1) := dk_dX10_init_611.2.2.2.1
theorem dX10_init_616 : decode cX10_init 616 = .ok (.bipush 115, 2) := dk_dX10_init_611.2.2.2.2.1
theorem dX10_init_618 : decode cX10_init 618 = .ok (.castore, 1) := dk_dX10_init_611.2.2.2.2.2.1
theorem dX10_init_619 : decode cX10_init 619 = .ok (.putfield 81, 3) := dk_dX10_init_611.2.2.2.2.2.2.1
theorem dX10_init_622 : decode cX10_init 622 = .ok (.aload_n 0, 1) := dk_dX10_init_611.2.2.2.2.2.2.2.1
theorem dk_dX10_init_611_8 : dz_C cX10_init [(623, .bipush 6, 2), (625, .newarray .char, 2), (627, .dup, 1), (628, .iconst 0, 1), (629, .bipush 110, 2), (631, .castore, 1), (632, .dup, 1), (633, .iconst 1, 1)] := dk_dX10_init_611.2.2.2.2.2.2.2.2
theorem dX10_init_623 : decode cX10_init 623 = .ok (.bipush 6, 2) := dk_dX10_init_611_8.1
theorem dX10_init_625 : decode cX10_init 625 = .ok (.newarray .char, 2) := dk_dX10_init_611_8.2.1
theorem dX10_init_627 : decode cX10_init 627 = .ok (.dup, 1) := dk_dX10_init_611_8.2.2.1
theorem dX10_init_628 : decode cX10_init 628 = .ok (.iconst 0, 1) := dk_dX10_init_611_8.2.2.2.1
theorem dX10_init_629 : decode cX10_init 629 = .ok (.bipush 110, 2) := dk_dX10_init_611_8.2.2.2.2.1
theorem dX10_init_631 : decode cX10_init 631 = .ok (.castore, 1) := dk_dX10_init_611_8.2.2.2.2.2.1
theorem dX10_init_632 : decode cX10_init 632 = .ok (.dup, 1) := dk_dX10_init_611_8.2.2.2.2.2.2.1
theorem dX10_init_633 : decode cX10_init 633 = .ok (.iconst 1, 1) := dk_dX10_init_611_8.2.2.2.2.2.2.2.1
theorem dk_dX10_init_634 : dz_C cX10_init [(634, .bipush 117, 2), (636, .castore, 1), (637, .dup, 1), (638, .iconst 2, 1), (639, .bipush 109, 2), (641, .castore, 1), (642, .dup, 1), (643, .iconst 3, 1), (644, .bipush 98, 2), (646, .castore, 1), (647, .dup, 1), (648, .iconst 4, 1), (649, .bipush 101, 2), (651, .castore, 1), (652, .dup, 1), (653, .iconst 5, 1)] := dz_of (by decide +kernel)
theorem dX10_init_634 : decode cX10_init 634 = .ok (.bipush 117, 2) := dk_dX10_init_634.1
theorem dX10_init_636 : decode cX10_init 636 = .ok (.castore, 1) := dk_dX10_init_634.2.1
theorem dX10_init_637 : decode cX10_init 637 = .ok (.dup, 1) := dk_dX10_init_634.2.2.1
theorem dX10_init_638 : decode cX10_init 638 = .ok (.iconst 2, 1) := dk_dX10_init_634.2.2.2.1
theorem dX10_init_639 : decode cX10_init 639 = .ok (.bipush 109, 2) := dk_dX10_init_634.2.2.2.2.1
theorem dX10_init_641 : decode cX10_init 641 = .ok (.castore, 1) := dk_dX10_init_634.2.2.2.2.2.1
theorem dX10_init_642 : decode cX10_init 642 = .ok (.dup, 1) := dk_dX10_init_634.2.2.2.2.2.2.1
theorem dX10_init_643 : decode cX10_init 643 = .ok (.iconst 3, 1) := dk_dX10_init_634.2.2.2.2.2.2.2.1
theorem dk_dX10_init_634_8 : dz_C cX10_init [(644, .bipush 98, 2), (646, .castore, 1), (647, .dup, 1), (648, .iconst 4, 1), (649, .bipush 101, 2), (651, .castore, 1), (652, .dup, 1), (653, .iconst 5, 1)] := dk_dX10_init_634.2.2.2.2.2.2.2.2
theorem dX10_init_644 : decode cX10_init 644 = .ok (.bipush 98, 2) := dk_dX10_init_634_8.1
theorem dX10_init_646 : decode cX10_init 646 = .ok (.castore, 1) := dk_dX10_init_634_8.2.1
theorem dX10_init_647 : decode cX10_init 647 = .ok (.dup, 1) := dk_dX10_init_634_8.2.2.1
theorem dX10_init_648 : decode cX10_init 648 = .ok (.iconst 4, 1) := dk_dX10_init_634_8.2.2.2.1
theorem dX10_init_649 : decode cX10_init 649 = .ok (.bipush 101, 2) := dk_dX10_init_634_8.2.2.2.2.1
theorem dX10_init_651 : decode cX10_init 651 = .ok (.castore, 1) := dk_dX10_init_634_8.2.2.2.2.2.1
theorem dX10_init_652 : decode cX10_init 652 = .ok (.dup, 1) := dk_dX10_init_634_8.2.2.2.2.2.2.1
theorem dX10_init_653 : decode cX10_init 653 = .ok (.iconst 5, 1) := dk_dX10_init_634_8.2.2.2.2.2.2.2.1
theorem dk_dX10_init_654 : dz_C cX10_init [(654, .bipush 114, 2), (656, .castore, 1), (657, .putfield 84, 3), (660, .aload_n 0, 1), (661, .iconst 4, 1), (662, .newarray .char, 2), (664, .dup, 1), (665, .iconst 0, 1), (666, .bipush 119, 2), (668, .castore, 1), (669, .dup, 1), (670, .iconst 1, 1), (671, .bipush 101, 2), (673, .castore, 1), (674, .dup, 1), (675, .iconst 2, 1)] := dz_of (by decide +kernel)
theorem dX10_init_654 : decode cX10_init 654 = .ok (.bipush 114, 2) := dk_dX10_init_654.1
theorem dX10_init_656 : decode cX10_init 656 = .ok (.castore, 1) := dk_dX10_init_654.2.1
theorem dX10_init_657 : decode cX10_init 657 = .ok (.putfield 84, 3) := dk_dX10_init_654.2.2.1
theorem dX10_init_660 : decode cX10_init 660 = .ok (.aload_n 0, 1) := dk_dX10_init_654.2.2.2.1
theorem dX10_init_661 : decode cX10_init 661 = .ok (.iconst 4, 1) := dk_dX10_init_654.2.2.2.2.1
theorem dX10_init_662 : decode cX10_init 662 = .ok (.newarray .char, 2) := dk_dX10_init_654.2.2.2.2.2.1
theorem dX10_init_664 : decode cX10_init 664 = .ok (.dup, 1) := dk_dX10_init_654.2.2.2.2.2.2.1
theorem dX10_init_665 : decode cX10_init 665 = .ok (.iconst 0, 1) := dk_dX10_init_654.2.2.2.2.2.2.2.1
theorem dk_dX10_init_654_8 : dz_C cX10_init [(666, .bipush 119, 2), (668, .castore, 1), (669, .dup, 1), (670, .iconst 1, 1), (671, .bipush 101, 2), (673, .castore, 1), (674, .dup, 1), (675, .iconst 2, 1)] := dk_dX10_init_654.2.2.2.2.2.2.2.2
theorem dX10_init_666 : decode cX10_init 666 = .ok (.bipush 119, 2) := dk_dX10_init_654_8.1
theorem dX10_init_668 : decode cX10_init 668 = .ok (.castore, 1) := dk_dX10_init_654_8.2.1
theorem dX10_init_669 : decode cX10_init 669 = .ok (.dup, 1) := dk_dX10_init_654_8.2.2.1
theorem dX10_init_670 : decode cX10_init 670 = .ok (.iconst 1, 1) := dk_dX10_init_654_8.2.2.2.1
theorem dX10_init_671 : decode cX10_init 671 = .ok (.bipush 101, 2) := dk_dX10_init_654_8.2.2.2.2.1
theorem dX10_init_673 : decode cX10_init 673 = .ok (.castore, 1) := dk_dX10_init_654_8.2.2.2.2.2.1
theorem dX10_init_674 : decode cX10_init 674 = .ok (.dup, 1) := dk_dX10_init_654_8.2.2.2.2.2.2.1
theorem dX10_init_675 : decode cX10_init 675 = .ok (.iconst 2, 1) := dk_dX10_init_654_8.2.2.2.2.2.2.2.1
theorem dk_dX10_init_676 : dz_C cX10_init [(676, .bipush 110, 2), (678, .castore, 1), (679, .dup, 1), (680, .iconst 3, 1), (681, .bipush 116, 2), (683, .castore, 1), (684, .putfield 87, 3), (687, .aload_n 0, 1), (688, .iconst 4, 1), (689, .newarray .char, 2), (691, .dup, 1), (692, .iconst 0, 1), (693, .bipush 104, 2), (695, .castore, 1), (696, .dup, 1), (697, .iconst 1, 1)] := dz_of (by decide +kernel)
theorem dX10_init_676 : decode cX10_init 676 = .ok (.bipush 110, 2) := dk_dX10_init_676.1
theorem dX10_init_678 : decode cX10_init 678 = .ok (.castore, 1) := dk_dX10_init_676.2.1
theorem dX10_init_679 : decode cX10_init 679 = .ok (.dup, 1) := dk_dX10_init_676.2.2.1
theorem dX10_init_680 : decode cX10_init 680 = .ok (.iconst 3, 1) := dk_dX10_init_676.2.2.2.1
theorem dX10_init_681 : decode cX10_init 681 = .ok (.bipush 116, 2) := dk_dX10_init_676.2.2.2.2.1
theorem dX10_init_683 : decode cX10_init 683 = .ok (.castore, 1) := dk_dX10_init_676.2.2.2.2.2.1
theorem dX10_init_684 : decode cX10_init 684 = .ok (.putfield 87, 3) := dk_dX10_init_676.2.2.2.2.2.2.1
theorem dX10_init_687 : decode cX10_init 687 = .ok (.aload_n 0, 1) := dk_dX10_init_676.2.2.2.2.2.2.2.1
theorem dk_dX10_init_676_8 : dz_C cX10_init [(688, .iconst 4, 1), (689, .newarray .char, 2), (691, .dup, 1), (692, .iconst 0, 1), (693, .bipush 104, 2), (695, .castore, 1), (696, .dup, 1), (697, .iconst 1, 1)] := dk_dX10_init_676.2.2.2.2.2.2.2.2
theorem dX10_init_688 : decode cX10_init 688 = .ok (.iconst 4, 1) := dk_dX10_init_676_8.1
theorem dX10_init_689 : decode cX10_init 689 = .ok (.newarray .char, 2) := dk_dX10_init_676_8.2.1
theorem dX10_init_691 : decode cX10_init 691 = .ok (.dup, 1) := dk_dX10_init_676_8.2.2.1
theorem dX10_init_692 : decode cX10_init 692 = .ok (.iconst 0, 1) := dk_dX10_init_676_8.2.2.2.1
theorem dX10_init_693 : decode cX10_init 693 = .ok (.bipush 104, 2) := dk_dX10_init_676_8.2.2.2.2.1
theorem dX10_init_695 : decode cX10_init 695 = .ok (.castore, 1) := dk_dX10_init_676_8.2.2.2.2.2.1
theorem dX10_init_696 : decode cX10_init 696 = .ok (.dup, 1) := dk_dX10_init_676_8.2.2.2.2.2.2.1
theorem dX10_init_697 : decode cX10_init 697 = .ok (.iconst 1, 1) := dk_dX10_init_676_8.2.2.2.2.2.2.2.1
theorem dk_dX10_init_698 : dz_C cX10_init [(698, .bipush 97, 2), (700, .castore, 1), (701, .dup, 1), (702, .iconst 2, 1), (703, .bipush 114, 2), (705, .castore, 1), (706, .dup, 1), (707, .iconst 3, 1), (708, .bipush 109, 2), (710, .castore, 1), (711, .putfield 90, 3), (714, .aload_n 0, 1), (715, .iconst 2, 1), (716, .newarray .char, 2), (718, .dup, 1), (719, .iconst 0, 1)] := dz_of (by decide +kernel)
theorem dX10_init_698 : decode cX10_init 698 = .ok (.bipush 97, 2) := dk_dX10_init_698.1
theorem dX10_init_700 : decode cX10_init 700 = .ok (.castore, 1) := dk_dX10_init_698.2.1
theorem dX10_init_701 : decode cX10_init 701 = .ok (.dup, 1) := dk_dX10_init_698.2.2.1
theorem dX10_init_702 : decode cX10_init 702 = .ok (.iconst 2, 1) := dk_dX10_init_698.2.2.2.1
theorem dX10_init_703 : decode cX10_init 703 = .ok (.bipush 114, 2) := dk_dX10_init_698.2.2.2.2.1
theorem dX10_init_705 : decode cX10_init 705 = .ok (.castore, 1) := dk_dX10_init_698.2.2.2.2.2.1
theorem dX10_init_706 : decode cX10_init 706 = .ok (.dup, 1) := dk_dX10_init_698.2.2.2.2.2.2.1
theorem dX10_init_707 : decode cX10_init 707 = .ok (.iconst 3, 1) := dk_dX10_init_698.2.2.2.2.2.2.2.1
theorem dk_dX10_init_698_8 : dz_C cX10_init [(708, .bipush 109, 2), (710, .castore, 1), (711, .putfield 90, 3), (714, .aload_n 0, 1), (715, .iconst 2, 1), (716, .newarray .char, 2), (718, .dup, 1), (719, .iconst 0, 1)] := dk_dX10_init_698.2.2.2.2.2.2.2.2
theorem dX10_init_708 : decode cX10_init 708 = .ok (.bipush 109, 2) := dk_dX10_init_698_8.1
theorem dX10_init_710 : decode cX10_init 710 = .ok (.castore, 1) := dk_dX10_init_698_8.2.1
theorem dX10_init_711 : decode cX10_init 711 = .ok (.putfield 90, 3) := dk_dX10_init_698_8.2.2.1
theorem dX10_init_714 : decode cX10_init 714 = .ok (.aload_n 0, 1) := dk_dX10_init_698_8.2.2.2.1
theorem dX10_init_715 : decode cX10_init 715 = .ok (.iconst 2, 1) := dk_dX10_init_698_8.2.2.2.2.1
theorem dX10_init_716 : decode cX10_init 716 = .ok (.newarray .char, 2) := dk_dX10_init_698_8.2.2.2.2.2.1
theorem dX10_init_718 : decode cX10_init 718 = .ok (.dup, 1) := dk_dX10_init_698_8.2.2.2.2.2.2.1
theorem dX10_init_719 : decode cX10_init 719 = .ok (.iconst 0, 1) := dk_dX10_init_698_8.2.2.2.2.2.2.2.1
theorem dk_dX10_init_720 : dz_C cX10_init [(720, .bipush 111, 2), (722, .castore, 1), (723, .dup, 1), (724, .iconst 1, 1), (725, .bipush 114, 2), (727, .castore, 1), (728, .putfield 93, 3), (731, .aload_n 0, 1), (732, .iconst 3, 1), (733, .newarray .char, 2), (735, .dup, 1), (736, .iconst 0, 1), (737, .bipush 97, 2), (739, .castore, 1), (740, .dup, 1), (741, .iconst 1, 1)] := dz_of (by decide +kernel)
theorem dX10_init_720 : decode cX10_init 720 = .ok (.bipush 111, 2) := dk_dX10_init_720.1
theorem dX10_init_722 : decode cX10_init 722 = .ok (.castore, 1) := dk_dX10_init_720.2.1
theorem dX10_init_723 : decode cX10_init 723 = .ok (.dup, 1) := dk_dX10_init_720.2.2.1
theorem dX10_init_724 : decode cX10_init 724 = .ok (.iconst 1, 1) := dk_dX10_init_720.2.2.2.1
theorem dX10_init_725 : decode cX10_init 725 = .ok (.bipush 114, 2) := dk_dX10_init_720.2.2.2.2.1
theorem dX10_init_727 : decode cX10_init 727 = .ok (.castore, 1) := dk_dX10_init_720.2.2.2.2.2.1
theorem dX10_init_728 : decode cX10_init 728 = .ok (.putfield 93, 3) := dk_dX10_init_720.2.2.2.2.2.2.1
theorem dX10_init_731 : decode cX10_init 731 = .ok (.aload_n 0, 1) := dk_dX10_init_720.2.2.2.2.2.2.2.1
theorem dk_dX10_init_720_8 : dz_C cX10_init [(732, .iconst 3, 1), (733, .newarray .char, 2), (735, .dup, 1), (736, .iconst 0, 1), (737, .bipush 97, 2), (739, .castore, 1), (740, .dup, 1), (741, .iconst 1, 1)] := dk_dX10_init_720.2.2.2.2.2.2.2.2
theorem dX10_init_732 : decode cX10_init 732 = .ok (.iconst 3, 1) := dk_dX10_init_720_8.1
theorem dX10_init_733 : decode cX10_init 733 = .ok (.newarray .char, 2) := dk_dX10_init_720_8.2.1
theorem dX10_init_735 : decode cX10_init 735 = .ok (.dup, 1) := dk_dX10_init_720_8.2.2.1
theorem dX10_init_736 : decode cX10_init 736 = .ok (.iconst 0, 1) := dk_dX10_init_720_8.2.2.2.1
theorem dX10_init_737 : decode cX10_init 737 = .ok (.bipush 97, 2) := dk_dX10_init_720_8.2.2.2.2.1
theorem dX10_init_739 : decode cX10_init 739 = .ok (.castore, 1) := dk_dX10_init_720_8.2.2.2.2.2.1
theorem dX10_init_740 : decode cX10_init 740 = .ok (.dup, 1) := dk_dX10_init_720_8.2.2.2.2.2.2.1
theorem dX10_init_741 : decode cX10_init 741 = .ok (.iconst 1, 1) := dk_dX10_init_720_8.2.2.2.2.2.2.2.1
theorem dk_dX10_init_742 : dz_C cX10_init [(742, .bipush 110, 2), (744, .castore, 1), (745, .dup, 1), (746, .iconst 2, 1), (747, .bipush 100, 2), (749, .castore, 1), (750, .putfield 96, 3), (753, .aload_n 0, 1), (754, .iconst 3, 1), (755, .newarray .char, 2), (757, .dup, 1), (758, .iconst 0, 1), (759, .bipush 110, 2), (761, .castore, 1), (762, .dup, 1), (763, .iconst 1, 1)] := dz_of (by decide +kernel)
theorem dX10_init_742 : decode cX10_init 742 = .ok (.bipush 110, 2) := dk_dX10_init_742.1
theorem dX10_init_744 : decode cX10_init 744 = .ok (.castore, 1) := dk_dX10_init_742.2.1
theorem dX10_init_745 : decode cX10_init 745 = .ok (.dup, 1) := dk_dX10_init_742.2.2.1
theorem dX10_init_746 : decode cX10_init 746 = .ok (.iconst 2, 1) := dk_dX10_init_742.2.2.2.1
theorem dX10_init_747 : decode cX10_init 747 = .ok (.bipush 100, 2) := dk_dX10_init_742.2.2.2.2.1
theorem dX10_init_749 : decode cX10_init 749 = .ok (.castore, 1) := dk_dX10_init_742.2.2.2.2.2.1
theorem dX10_init_750 : decode cX10_init 750 = .ok (.putfield 96, 3) := dk_dX10_init_742.2.2.2.2.2.2.1
theorem dX10_init_753 : decode cX10_init 753 = .ok (.aload_n 0, 1) := dk_dX10_init_742.2.2.2.2.2.2.2.1
theorem dk_dX10_init_742_8 : dz_C cX10_init [(754, .iconst 3, 1), (755, .newarray .char, 2), (757, .dup, 1), (758, .iconst 0, 1), (759, .bipush 110, 2), (761, .castore, 1), (762, .dup, 1), (763, .iconst 1, 1)] := dk_dX10_init_742.2.2.2.2.2.2.2.2
theorem dX10_init_754 : decode cX10_init 754 = .ok (.iconst 3, 1) := dk_dX10_init_742_8.1
theorem dX10_init_755 : decode cX10_init 755 = .ok (.newarray .char, 2) := dk_dX10_init_742_8.2.1
theorem dX10_init_757 : decode cX10_init 757 = .ok (.dup, 1) := dk_dX10_init_742_8.2.2.1
theorem dX10_init_758 : decode cX10_init 758 = .ok (.iconst 0, 1) := dk_dX10_init_742_8.2.2.2.1
theorem dX10_init_759 : decode cX10_init 759 = .ok (.bipush 110, 2) := dk_dX10_init_742_8.2.2.2.2.1
theorem dX10_init_761 : decode cX10_init 761 = .ok (.castore, 1) := dk_dX10_init_742_8.2.2.2.2.2.1
theorem dX10_init_762 : decode cX10_init 762 = .ok (.dup, 1) := dk_dX10_init_742_8.2.2.2.2.2.2.1
theorem dX10_init_763 : decode cX10_init 763 = .ok (.iconst 1, 1) := dk_dX10_init_742_8.2.2.2.2.2.2.2.1
theorem dk_dX10_init_764 : dz_C cX10_init [(764, .bipush 111, 2), (766, .castore, 1), (767, .dup, 1), (768, .iconst 2, 1), (769, .bipush 116, 2), (771, .castore, 1), (772, .putfield 99, 3), (775, .aload_n 0, 1), (776, .iconst 3, 1), (777, .newarray .char, 2), (779, .dup, 1), (780, .iconst 0, 1), (781, .bipush 97, 2), (783, .castore, 1), (784, .dup, 1), (785, .iconst 1, 1)] := dz_of (by decide +kernel)
theorem dX10_init_764 : decode cX10_init 764 = .ok (.bipush 111, 2) := dk_dX10_init_764.1
theorem dX10_init_766 : decode cX10_init 766 = .ok (.castore, 1) := dk_dX10_init_764.2.1
theorem dX10_init_767 : decode cX10_init 767 = .ok (.dup, 1) := dk_dX10_init_764.2.2.1
theorem dX10_init_768 : decode cX10_init 768 = .ok (.iconst 2, 1) := dk_dX10_init_764.2.2.2.1
theorem dX10_init_769 : decode cX10_init 769 = .ok (.bipush 116, 2) := dk_dX10_init_764.2.2.2.2.1
theorem dX10_init_771 : decode cX10_init 771 = .ok (.castore, 1) := dk_dX10_init_764.2.2.2.2.2.1
theorem dX10_init_772 : decode cX10_init 772 = .ok (.putfield 99, 3) := dk_dX10_init_764.2.2.2.2.2.2.1
theorem dX10_init_775 : decode cX10_init 775 = .ok (.aload_n 0, 1) := dk_dX10_init_764.2.2.2.2.2.2.2.1
theorem dk_dX10_init_764_8 : dz_C cX10_init [(776, .iconst 3, 1), (777, .newarray .char, 2), (779, .dup, 1), (780, .iconst 0, 1), (781, .bipush 97, 2), (783, .castore, 1), (784, .dup, 1), (785, .iconst 1, 1)] := dk_dX10_init_764.2.2.2.2.2.2.2.2
theorem dX10_init_776 : decode cX10_init 776 = .ok (.iconst 3, 1) := dk_dX10_init_764_8.1
theorem dX10_init_777 : decode cX10_init 777 = .ok (.newarray .char, 2) := dk_dX10_init_764_8.2.1
theorem dX10_init_779 : decode cX10_init 779 = .ok (.dup, 1) := dk_dX10_init_764_8.2.2.1
theorem dX10_init_780 : decode cX10_init 780 = .ok (.iconst 0, 1) := dk_dX10_init_764_8.2.2.2.1
theorem dX10_init_781 : decode cX10_init 781 = .ok (.bipush 97, 2) := dk_dX10_init_764_8.2.2.2.2.1
theorem dX10_init_783 : decode cX10_init 783 = .ok (.castore, 1) := dk_dX10_init_764_8.2.2.2.2.2.1
theorem dX10_init_784 : decode cX10_init 784 = .ok (.dup, 1) := dk_dX10_init_764_8.2.2.2.2.2.2.1
theorem dX10_init_785 : decode cX10_init 785 = .ok (.iconst 1, 1) := dk_dX10_init_764_8.2.2.2.2.2.2.2.1
theorem dk_dX10_init_786 : dz_C cX10_init [(786, .bipush 108, 2), (788, .castore, 1), (789, .dup, 1), (790, .iconst 2, 1), (791, .bipush 108, 2), (793, .castore, 1), (794, .putfield 102, 3), (797, .aload_n 0, 1), (798, .iconst 3, 1), (799, .newarray .char, 2), (801, .dup, 1), (802, .iconst 0, 1), (803, .bipush 109, 2), (805, .castore, 1), (806, .dup, 1), (807, .iconst 1, 1)] := dz_of (by decide +kernel)
theorem dX10_init_786 : decode cX10_init 786 = .ok (.bipush 108, 2) := dk_dX10_init_786.1
theorem dX10_init_788 : decode cX10_init 788 = .ok (.castore, 1) := dk_dX10_init_786.2.1
theorem dX10_init_789 : decode cX10_init 789 = .ok (.dup, 1) := dk_dX10_init_786.2.2.1
theorem dX10_init_790 : decode cX10_init 790 = .ok (.iconst 2, 1) := dk_dX10_init_786.2.2.2.1
theorem dX10_init_791 : decode cX10_init 791 = .ok (.bipush 108, 2) := dk_dX10_init_786.2.2.2.2.1
theorem dX10_init_793 : decode cX10_init 793 = .ok (.castore, 1) := dk_dX10_init_786.2.2.2.2.2.1
theorem dX10_init_794 : decode cX10_init 794 = .ok (.putfield 102, 3) := dk_dX10_init_786.2.2.2.2.2.2.1
theorem dX10_init_797 : decode cX10_init 797 = .ok (.aload_n 0, 1) := dk_dX10_init_786.2.2.2.2.2.2.2.1
theorem dk_dX10_init_786_8 : dz_C cX10_init [(798, .iconst 3, 1), (799, .newarray .char, 2), (801, .dup, 1), (802, .iconst 0, 1), (803, .bipush 109, 2), (805, .castore, 1), (806, .dup, 1), (807, .iconst 1, 1)] := dk_dX10_init_786.2.2.2.2.2.2.2.2
theorem dX10_init_798 : decode cX10_init 798 = .ok (.iconst 3, 1) := dk_dX10_init_786_8.1
theorem dX10_init_799 : decode cX10_init 799 = .ok (.newarray .char, 2) := dk_dX10_init_786_8.2.1
theorem dX10_init_801 : decode cX10_init 801 = .ok (.dup, 1) := dk_dX10_init_786_8.2.2.1
theorem dX10_init_802 : decode cX10_init 802 = .ok (.iconst 0, 1) := dk_dX10_init_786_8.2.2.2.1
theorem dX10_init_803 : decode cX10_init 803 = .ok (.bipush 109, 2) := dk_dX10_init_786_8.2.2.2.2.1
theorem dX10_init_805 : decode cX10_init 805 = .ok (.castore, 1) := dk_dX10_init_786_8.2.2.2.2.2.1
theorem dX10_init_806 : decode cX10_init 806 = .ok (.dup, 1) := dk_dX10_init_786_8.2.2.2.2.2.2.1
theorem dX10_init_807 : decode cX10_init 807 = .ok (.iconst 1, 1) := dk_dX10_init_786_8.2.2.2.2.2.2.2.1
theorem dk_dX10_init_808 : dz_C cX10_init [(808, .bipush 105, 2), (810, .castore, 1), (811, .dup, 1), (812, .iconst 2, 1), (813, .bipush 110, 2), (815, .castore, 1), (816, .putfield 105, 3), (819, .aload_n 0, 1), (820, .iconst 3, 1), (821, .newarray .char, 2), (823, .dup, 1), (824, .iconst 0, 1), (825, .bipush 109, 2), (827, .castore, 1), (828, .dup, 1), (829, .iconst 1, 1)] := dz_of (by decide +kernel)
theorem dX10_init_808 : decode cX10_init 808 = .ok (.bipush 105, 2) := dk_dX10_init_808.1
theorem dX10_init_810 : decode cX10_init 810 = .ok (.castore, 1) := dk_dX10_init_808.2.1
theorem dX10_init_811 : decode cX10_init 811 = .ok (.dup, 1) := dk_dX10_init_808.2.2.1
theorem dX10_init_812 : decode cX10_init 812 = .ok (.iconst 2, 1) := dk_dX10_init_808.2.2.2.1
theorem dX10_init_813 : decode cX10_init 813 = .ok (.bipush 110, 2) := dk_dX10_init_808.2.2.2.2.1
theorem dX10_init_815 : decode cX10_init 815 = .ok (.castore, 1) := dk_dX10_init_808.2.2.2.2.2.1
theorem dX10_init_816 : decode cX10_init 816 = .ok (.putfield 105, 3) := dk_dX10_init_808.2.2.2.2.2.2.1
theorem dX10_init_819 : decode cX10_init 819 = .ok (.aload_n 0, 1) := dk_dX10_init_808.2.2.2.2.2.2.2.1
theorem dk_dX10_init_808_8 : dz_C cX10_init [(820, .iconst 3, 1), (821, .newarray .char, 2), (823, .dup, 1), (824, .iconst 0, 1), (825, .bipush 109, 2), (827, .castore, 1), (828, .dup, 1), (829, .iconst 1, 1)] := dk_dX10_init_808.2.2.2.2.2.2.2.2
theorem dX10_init_820 : decode cX10_init 820 = .ok (.iconst 3, 1) := dk_dX10_init_808_8.1
theorem dX10_init_821 : decode cX10_init 821 = .ok (.newarray .char, 2) := dk_dX10_init_808_8.2.1
theorem dX10_init_823 : decode cX10_init 823 = .ok (.dup, 1) := dk_dX10_init_808_8.2.2.1
theorem dX10_init_824 : decode cX10_init 824 = .ok (.iconst 0, 1) := dk_dX10_init_808_8.2.2.2.1
theorem dX10_init_825 : decode cX10_init 825 = .ok (.bipush 109, 2) := dk_dX10_init_808_8.2.2.2.2.1
theorem dX10_init_827 : decode cX10_init 827 = .ok (.castore, 1) := dk_dX10_init_808_8.2.2.2.2.2.1
theorem dX10_init_828 : decode cX10_init 828 = .ok (.dup, 1) := dk_dX10_init_808_8.2.2.2.2.2.2.1
theorem dX10_init_829 : decode cX10_init 829 = .ok (.iconst 1, 1) := dk_dX10_init_808_8.2.2.2.2.2.2.2.1
theorem dk_dX10_init_830 : dz_C cX10_init [(830, .bipush 97, 2), (832, .castore, 1), (833, .dup, 1), (834, .iconst 2, 1), (835, .bipush 120, 2), (837, .castore, 1), (838, .putfield 108, 3), (841, .aload_n 0, 1), (842, .iconst 4, 1), (843, .newarray .int, 2), (845, .putfield 111, 3), (848, .aload_n 0, 1), (849, .bipush 48, 2), (851, .newarray .long, 2), (853, .putfield 114, 3), (856, .aload_n 0, 1)] := dz_of (by decide +kernel)
theorem dX10_init_830 : decode cX10_init 830 = .ok (.bipush 97, 2) := dk_dX10_init_830.1
theorem dX10_init_832 : decode cX10_init 832 = .ok (.castore, 1) := dk_dX10_init_830.2.1
theorem dX10_init_833 : decode cX10_init 833 = .ok (.dup, 1) := dk_dX10_init_830.2.2.1
theorem dX10_init_834 : decode cX10_init 834 = .ok (.iconst 2, 1) := dk_dX10_init_830.2.2.2.1
theorem dX10_init_835 : decode cX10_init 835 = .ok (.bipush 120, 2) := dk_dX10_init_830.2.2.2.2.1
theorem dX10_init_837 : decode cX10_init 837 = .ok (.castore, 1) := dk_dX10_init_830.2.2.2.2.2.1
theorem dX10_init_838 : decode cX10_init 838 = .ok (.putfield 108, 3) := dk_dX10_init_830.2.2.2.2.2.2.1
theorem dX10_init_841 : decode cX10_init 841 = .ok (.aload_n 0, 1) := dk_dX10_init_830.2.2.2.2.2.2.2.1
theorem dk_dX10_init_830_8 : dz_C cX10_init [(842, .iconst 4, 1), (843, .newarray .int, 2), (845, .putfield 111, 3), (848, .aload_n 0, 1), (849, .bipush 48, 2), (851, .newarray .long, 2), (853, .putfield 114, 3), (856, .aload_n 0, 1)] := dk_dX10_init_830.2.2.2.2.2.2.2.2
theorem dX10_init_842 : decode cX10_init 842 = .ok (.iconst 4, 1) := dk_dX10_init_830_8.1
theorem dX10_init_843 : decode cX10_init 843 = .ok (.newarray .int, 2) := dk_dX10_init_830_8.2.1
theorem dX10_init_845 : decode cX10_init 845 = .ok (.putfield 111, 3) := dk_dX10_init_830_8.2.2.1
theorem dX10_init_848 : decode cX10_init 848 = .ok (.aload_n 0, 1) := dk_dX10_init_830_8.2.2.2.1
theorem dX10_init_849 : decode cX10_init 849 = .ok (.bipush 48, 2) := dk_dX10_init_830_8.2.2.2.2.1
theorem dX10_init_851 : decode cX10_init 851 = .ok (.newarray .long, 2) := dk_dX10_init_830_8.2.2.2.2.2.1
theorem dX10_init_853 : decode cX10_init 853 = .ok (.putfield 114, 3) := dk_dX10_init_830_8.2.2.2.2.2.2.1
theorem dX10_init_856 : decode cX10_init 856 = .ok (.aload_n 0, 1) := dk_dX10_init_830_8.2.2.2.2.2.2.2.1
theorem dk_dX10_init_857 : dz_C cX10_init [(857, .bipush 8, 2), (859, .newarray .int, 2), (861, .putfield 118, 3), (864, .aload_n 0, 1), (865, .bipush 24, 2), (867, .newarray .int, 2), (869, .putfield 121, 3), (872, .aload_n 0, 1), (873, .bipush 6, 2), (875, .newarray .int, 2), (877, .putfield 124, 3), (880, .aload_n 0, 1), (881, .bipush 48, 2), (883, .newarray .int, 2), (885, .putfield 127, 3), (888, .aload_n 0, 1)] := dz_of (by decide +kernel)
theorem dX10_init_857 : decode cX10_init 857 = .ok (.bipush 8, 2) := dk_dX10_init_857.1
theorem dX10_init_859 : decode cX10_init 859 = .ok (.newarray .int, 2) := dk_dX10_init_857.2.1
theorem dX10_init_861 : decode cX10_init 861 = .ok (.putfield 118, 3) := dk_dX10_init_857.2.2.1
theorem dX10_init_864 : decode cX10_init 864 = .ok (.aload_n 0, 1) := dk_dX10_init_857.2.2.2.1
theorem dX10_init_865 : decode cX10_init 865 = .ok (.bipush 24, 2) := dk_dX10_init_857.2.2.2.2.1
theorem dX10_init_867 : decode cX10_init 867 = .ok (.newarray .int, 2) := dk_dX10_init_857.2.2.2.2.2.1
theorem dX10_init_869 : decode cX10_init 869 = .ok (.putfield 121, 3) := dk_dX10_init_857.2.2.2.2.2.2.1
theorem dX10_init_872 : decode cX10_init 872 = .ok (.aload_n 0, 1) := dk_dX10_init_857.2.2.2.2.2.2.2.1
theorem dk_dX10_init_857_8 : dz_C cX10_init [(873, .bipush 6, 2), (875, .newarray .int, 2), (877, .putfield 124, 3), (880, .aload_n 0, 1), (881, .bipush 48, 2), (883, .newarray .int, 2), (885, .putfield 127, 3), (888, .aload_n 0, 1)] := dk_dX10_init_857.2.2.2.2.2.2.2.2
theorem dX10_init_873 : decode cX10_init 873 = .ok (.bipush 6, 2) := dk_dX10_init_857_8.1
theorem dX10_init_875 : decode cX10_init 875 = .ok (.newarray .int, 2) := dk_dX10_init_857_8.2.1
theorem dX10_init_877 : decode cX10_init 877 = .ok (.putfield 124, 3) := dk_dX10_init_857_8.2.2.1
theorem dX10_init_880 : decode cX10_init 880 = .ok (.aload_n 0, 1) := dk_dX10_init_857_8.2.2.2.1
theorem dX10_init_881 : decode cX10_init 881 = .ok (.bipush 48, 2) := dk_dX10_init_857_8.2.2.2.2.1
theorem dX10_init_883 : decode cX10_init 883 = .ok (.newarray .int, 2) := dk_dX10_init_857_8.2.2.2.2.2.1
theorem dX10_init_885 : decode cX10_init 885 = .ok (.putfield 127, 3) := dk_dX10_init_857_8.2.2.2.2.2.2.1
theorem dX10_init_888 : decode cX10_init 888 = .ok (.aload_n 0, 1) := dk_dX10_init_857_8.2.2.2.2.2.2.2.1
theorem dk_dX10_init_889 : dz_C cX10_init [(889, .bipush 6, 2), (891, .newarray .int, 2), (893, .dup, 1), (894, .iconst 0, 1), (895, .iconst (-1), 1), (896, .iastore, 1), (897, .dup, 1), (898, .iconst 1, 1), (899, .iconst (-1), 1), (900, .iastore, 1), (901, .dup, 1), (902, .iconst 2, 1), (903, .iconst (-1), 1), (904, .iastore, 1), (905, .dup, 1), (906, .iconst 3, 1)] := dz_of (by decide +kernel)
theorem dX10_init_889 : decode cX10_init 889 = .ok (.bipush 6, 2) := dk_dX10_init_889.1
theorem dX10_init_891 : decode cX10_init 891 = .ok (.newarray .int, 2) := dk_dX10_init_889.2.1
theorem dX10_init_893 : decode cX10_init 893 = .ok (.dup, 1) := dk_dX10_init_889.2.2.1
theorem dX10_init_894 : decode cX10_init 894 = .ok (.iconst 0, 1) := dk_dX10_init_889.2.2.2.1
theorem dX10_init_895 : decode cX10_init 895 = .ok (.iconst (-1), 1) := dk_dX10_init_889.2.2.2.2.1
theorem dX10_init_896 : decode cX10_init 896 = .ok (.iastore, 1) := dk_dX10_init_889.2.2.2.2.2.1
theorem dX10_init_897 : decode cX10_init 897 = .ok (.dup, 1) := dk_dX10_init_889.2.2.2.2.2.2.1
theorem dX10_init_898 : decode cX10_init 898 = .ok (.iconst 1, 1) := dk_dX10_init_889.2.2.2.2.2.2.2.1
theorem dk_dX10_init_889_8 : dz_C cX10_init [(899, .iconst (-1), 1), (900, .iastore, 1), (901, .dup, 1), (902, .iconst 2, 1), (903, .iconst (-1), 1), (904, .iastore, 1), (905, .dup, 1), (906, .iconst 3, 1)] := dk_dX10_init_889.2.2.2.2.2.2.2.2
theorem dX10_init_899 : decode cX10_init 899 = .ok (.iconst (-1), 1) := dk_dX10_init_889_8.1
theorem dX10_init_900 : decode cX10_init 900 = .ok (.iastore, 1) := dk_dX10_init_889_8.2.1
theorem dX10_init_901 : decode cX10_init 901 = .ok (.dup, 1) := dk_dX10_init_889_8.2.2.1
theorem dX10_init_902 : decode cX10_init 902 = .ok (.iconst 2, 1) := dk_dX10_init_889_8.2.2.2.1
theorem dX10_init_903 : decode cX10_init 903 = .ok (.iconst (-1), 1) := dk_dX10_init_889_8.2.2.2.2.1
theorem dX10_init_904 : decode cX10_init 904 = .ok (.iastore, 1) := dk_dX10_init_889_8.2.2.2.2.2.1
theorem dX10_init_905 : decode cX10_init 905 = .ok (.dup, 1) := dk_dX10_init_889_8.2.2.2.2.2.2.1
theorem dX10_init_906 : decode cX10_init 906 = .ok (.iconst 3, 1) := dk_dX10_init_889_8.2.2.2.2.2.2.2.1
theorem dk_dX10_init_907 : dz_C cX10_init [(907, .iconst (-1), 1), (908, .iastore, 1), (909, .dup, 1), (910, .iconst 4, 1), (911, .iconst (-1), 1), (912, .iastore, 1), (913, .dup, 1), (914, .iconst 5, 1), (915, .iconst (-1), 1), (916, .iastore, 1), (917, .putfield 130, 3), (920, .aload_n 0, 1), (921, .bipush 6, 2), (923, .newarray .int, 2), (925, .putfield 133, 3), (928, .aload_n 0, 1)] := dz_of (by decide +kernel)
theorem dX10_init_907 : decode cX10_init 907 = .ok (.iconst (-1), 1) := dk_dX10_init_907.1
theorem dX10_init_908 : decode cX10_init 908 = .ok (.iastore, 1) := dk_dX10_init_907.2.1
theorem dX10_init_909 : decode cX10_init 909 = .ok (.dup, 1) := dk_dX10_init_907.2.2.1
theorem dX10_init_910 : decode cX10_init 910 = .ok (.iconst 4, 1) := dk_dX10_init_907.2.2.2.1
theorem dX10_init_911 : decode cX10_init 911 = .ok (.iconst (-1), 1) := dk_dX10_init_907.2.2.2.2.1
theorem dX10_init_912 : decode cX10_init 912 = .ok (.iastore, 1) := dk_dX10_init_907.2.2.2.2.2.1
theorem dX10_init_913 : decode cX10_init 913 = .ok (.dup, 1) := dk_dX10_init_907.2.2.2.2.2.2.1
theorem dX10_init_914 : decode cX10_init 914 = .ok (.iconst 5, 1) := dk_dX10_init_907.2.2.2.2.2.2.2.1
theorem dk_dX10_init_907_8 : dz_C cX10_init [(915, .iconst (-1), 1), (916, .iastore, 1), (917, .putfield 130, 3), (920, .aload_n 0, 1), (921, .bipush 6, 2), (923, .newarray .int, 2), (925, .putfield 133, 3), (928, .aload_n 0, 1)] := dk_dX10_init_907.2.2.2.2.2.2.2.2
theorem dX10_init_915 : decode cX10_init 915 = .ok (.iconst (-1), 1) := dk_dX10_init_907_8.1
theorem dX10_init_916 : decode cX10_init 916 = .ok (.iastore, 1) := dk_dX10_init_907_8.2.1
theorem dX10_init_917 : decode cX10_init 917 = .ok (.putfield 130, 3) := dk_dX10_init_907_8.2.2.1
theorem dX10_init_920 : decode cX10_init 920 = .ok (.aload_n 0, 1) := dk_dX10_init_907_8.2.2.2.1
theorem dX10_init_921 : decode cX10_init 921 = .ok (.bipush 6, 2) := dk_dX10_init_907_8.2.2.2.2.1
theorem dX10_init_923 : decode cX10_init 923 = .ok (.newarray .int, 2) := dk_dX10_init_907_8.2.2.2.2.2.1
theorem dX10_init_925 : decode cX10_init 925 = .ok (.putfield 133, 3) := dk_dX10_init_907_8.2.2.2.2.2.2.1
theorem dX10_init_928 : decode cX10_init 928 = .ok (.aload_n 0, 1) := dk_dX10_init_907_8.2.2.2.2.2.2.2.1
theorem dk_dX10_init_929 : dz_C cX10_init [(929, .sipush 3200, 3), (932, .newarray .int, 2), (934, .putfield 136, 3), (937, .aload_n 0, 1), (938, .bipush 9, 2), (940, .newarray .int, 2), (942, .putfield 139, 3), (945, .aload_n 0, 1), (946, .bipush 9, 2), (948, .newarray .int, 2), (950, .putfield 142, 3), (953, .aload_n 0, 1), (954, .sipush 320, 3), (957, .newarray .boolean, 2), (959, .putfield 145, 3), (962, .aload_n 0, 1)] := dz_of (by decide +kernel)
theorem dX10_init_929 : decode cX10_init 929 = .ok (.sipush 3200, 3) := dk_dX10_init_929.1
theorem dX10_init_932 : decode cX10_init 932 = .ok (.newarray .int, 2) := dk_dX10_init_929.2.1
theorem dX10_init_934 : decode cX10_init 934 = .ok (.putfield 136, 3) := dk_dX10_init_929.2.2.1
theorem dX10_init_937 : decode cX10_init 937 = .ok (.aload_n 0, 1) := dk_dX10_init_929.2.2.2.1
theorem dX10_init_938 : decode cX10_init 938 = .ok (.bipush 9, 2) := dk_dX10_init_929.2.2.2.2.1
theorem dX10_init_940 : decode cX10_init 940 = .ok (.newarray .int, 2) := dk_dX10_init_929.2.2.2.2.2.1
theorem dX10_init_942 : decode cX10_init 942 = .ok (.putfield 139, 3) := dk_dX10_init_929.2.2.2.2.2.2.1
theorem dX10_init_945 : decode cX10_init 945 = .ok (.aload_n 0, 1) := dk_dX10_init_929.2.2.2.2.2.2.2.1
theorem dk_dX10_init_929_8 : dz_C cX10_init [(946, .bipush 9, 2), (948, .newarray .int, 2), (950, .putfield 142, 3), (953, .aload_n 0, 1), (954, .sipush 320, 3), (957, .newarray .boolean, 2), (959, .putfield 145, 3), (962, .aload_n 0, 1)] := dk_dX10_init_929.2.2.2.2.2.2.2.2
theorem dX10_init_946 : decode cX10_init 946 = .ok (.bipush 9, 2) := dk_dX10_init_929_8.1
theorem dX10_init_948 : decode cX10_init 948 = .ok (.newarray .int, 2) := dk_dX10_init_929_8.2.1
theorem dX10_init_950 : decode cX10_init 950 = .ok (.putfield 142, 3) := dk_dX10_init_929_8.2.2.1
theorem dX10_init_953 : decode cX10_init 953 = .ok (.aload_n 0, 1) := dk_dX10_init_929_8.2.2.2.1
theorem dX10_init_954 : decode cX10_init 954 = .ok (.sipush 320, 3) := dk_dX10_init_929_8.2.2.2.2.1
theorem dX10_init_957 : decode cX10_init 957 = .ok (.newarray .boolean, 2) := dk_dX10_init_929_8.2.2.2.2.2.1
theorem dX10_init_959 : decode cX10_init 959 = .ok (.putfield 145, 3) := dk_dX10_init_929_8.2.2.2.2.2.2.1
theorem dX10_init_962 : decode cX10_init 962 = .ok (.aload_n 0, 1) := dk_dX10_init_929_8.2.2.2.2.2.2.2.1
theorem dk_dX10_init_963 : dz_C cX10_init [(963, .sipush 300, 3), (966, .newarray .int, 2), (968, .putfield 149, 3), (971, .aload_n 0, 1), (972, .sipush 300, 3), (975, .newarray .boolean, 2), (977, .putfield 152, 3), (980, .aload_n 0, 1), (981, .bipush 12, 2), (983, .newarray .boolean, 2), (985, .putfield 155, 3), (988, .aload_n 0, 1), (989, .bipush 12, 2), (991, .newarray .int, 2), (993, .putfield 158, 3), (996, .aload_n 0, 1)] := dz_of (by decide +kernel)
theorem dX10_init_963 : decode cX10_init 963 = .ok (.sipush 300, 3) := dk_dX10_init_963.1
theorem dX10_init_966 : decode cX10_init 966 = .ok (.newarray .int, 2) := dk_dX10_init_963.2.1
theorem dX10_init_968 : decode cX10_init 968 = .ok (.putfield 149, 3) := dk_dX10_init_963.2.2.1
theorem dX10_init_971 : decode cX10_init 971 = .ok (.aload_n 0, 1) := dk_dX10_init_963.2.2.2.1
theorem dX10_init_972 : decode cX10_init 972 = .ok (.sipush 300, 3) := dk_dX10_init_963.2.2.2.2.1
theorem dX10_init_975 : decode cX10_init 975 = .ok (.newarray .boolean, 2) := dk_dX10_init_963.2.2.2.2.2.1
theorem dX10_init_977 : decode cX10_init 977 = .ok (.putfield 152, 3) := dk_dX10_init_963.2.2.2.2.2.2.1
theorem dX10_init_980 : decode cX10_init 980 = .ok (.aload_n 0, 1) := dk_dX10_init_963.2.2.2.2.2.2.2.1
theorem dk_dX10_init_963_8 : dz_C cX10_init [(981, .bipush 12, 2), (983, .newarray .boolean, 2), (985, .putfield 155, 3), (988, .aload_n 0, 1), (989, .bipush 12, 2), (991, .newarray .int, 2), (993, .putfield 158, 3), (996, .aload_n 0, 1)] := dk_dX10_init_963.2.2.2.2.2.2.2.2
theorem dX10_init_981 : decode cX10_init 981 = .ok (.bipush 12, 2) := dk_dX10_init_963_8.1
theorem dX10_init_983 : decode cX10_init 983 = .ok (.newarray .boolean, 2) := dk_dX10_init_963_8.2.1
theorem dX10_init_985 : decode cX10_init 985 = .ok (.putfield 155, 3) := dk_dX10_init_963_8.2.2.1
theorem dX10_init_988 : decode cX10_init 988 = .ok (.aload_n 0, 1) := dk_dX10_init_963_8.2.2.2.1
theorem dX10_init_989 : decode cX10_init 989 = .ok (.bipush 12, 2) := dk_dX10_init_963_8.2.2.2.2.1
theorem dX10_init_991 : decode cX10_init 991 = .ok (.newarray .int, 2) := dk_dX10_init_963_8.2.2.2.2.2.1
theorem dX10_init_993 : decode cX10_init 993 = .ok (.putfield 158, 3) := dk_dX10_init_963_8.2.2.2.2.2.2.1
theorem dX10_init_996 : decode cX10_init 996 = .ok (.aload_n 0, 1) := dk_dX10_init_963_8.2.2.2.2.2.2.2.1
theorem dk_dX10_init_997 : dz_C cX10_init [(997, .bipush 12, 2), (999, .newarray .int, 2), (1001, .putfield 161, 3), (1004, .aload_n 0, 1), (1005, .bipush 12, 2), (1007, .newarray .boolean, 2), (1009, .putfield 164, 3), (1012, .aload_n 0, 1), (1013, .bipush 12, 2), (1015, .newarray .boolean, 2), (1017, .putfield 167, 3), (1020, .aload_n 0, 1), (1021, .bipush 12, 2), (1023, .newarray .boolean, 2), (1025, .putfield 170, 3), (1028, .aload_n 0, 1)] := dz_of (by decide +kernel)
theorem dX10_init_997 : decode cX10_init 997 = .ok (.bipush 12, 2) := dk_dX10_init_997.1
theorem dX10_init_999 : decode cX10_init 999 = .ok (.newarray .int, 2) := dk_dX10_init_997.2.1
theorem dX10_init_1001 : decode cX10_init 1001 = .ok (.putfield 161, 3) := dk_dX10_init_997.2.2.1
theorem dX10_init_1004 : decode cX10_init 1004 = .ok (.aload_n 0, 1) := dk_dX10_init_997.2.2.2.1
theorem dX10_init_1005 : decode cX10_init 1005 = .ok (.bipush 12, 2) := dk_dX10_init_997.2.2.2.2.1
theorem dX10_init_1007 : decode cX10_init 1007 = .ok (.newarray .boolean, 2) := dk_dX10_init_997.2.2.2.2.2.1
theorem dX10_init_1009 : decode cX10_init 1009 = .ok (.putfield 164, 3) := dk_dX10_init_997.2.2.2.2.2.2.1
theorem dX10_init_1012 : decode cX10_init 1012 = .ok (.aload_n 0, 1) := dk_dX10_init_997.2.2.2.2.2.2.2.1
theorem dk_dX10_init_997_8 : dz_C cX10_init [(1013, .bipush 12, 2), (1015, .newarray .boolean, 2), (1017, .putfield 167, 3), (1020, .aload_n 0, 1), (1021, .bipush 12, 2), (1023, .newarray .boolean, 2), (1025, .putfield 170, 3), (1028, .aload_n 0, 1)] := dk_dX10_init_997.2.2.2.2.2.2.2.2
theorem dX10_init_1013 : decode cX10_init 1013 = .ok (.bipush 12, 2) := dk_dX10_init_997_8.1
theorem dX10_init_1015 : decode cX10_init 1015 = .ok (.newarray .boolean, 2) := dk_dX10_init_997_8.2.1
theorem dX10_init_1017 : decode cX10_init 1017 = .ok (.putfield 167, 3) := dk_dX10_init_997_8.2.2.1
theorem dX10_init_1020 : decode cX10_init 1020 = .ok (.aload_n 0, 1) := dk_dX10_init_997_8.2.2.2.1
theorem dX10_init_1021 : decode cX10_init 1021 = .ok (.bipush 12, 2) := dk_dX10_init_997_8.2.2.2.2.1
theorem dX10_init_1023 : decode cX10_init 1023 = .ok (.newarray .boolean, 2) := dk_dX10_init_997_8.2.2.2.2.2.1
theorem dX10_init_1025 : decode cX10_init 1025 = .ok (.putfield 170, 3) := dk_dX10_init_997_8.2.2.2.2.2.2.1
theorem dX10_init_1028 : decode cX10_init 1028 = .ok (.aload_n 0, 1) := dk_dX10_init_997_8.2.2.2.2.2.2.2.1
theorem dk_dX10_init_1029 : dz_C cX10_init [(1029, .sipush 300, 3), (1032, .newarray .boolean, 2), (1034, .putfield 173, 3), (1037, .aload_n 0, 1), (1038, .bipush 32, 2), (1040, .newarray .int, 2), (1042, .putfield 176, 3), (1045, .aload_n 0, 1), (1046, .sipush 720, 3), (1049, .newarray .int, 2), (1051, .putfield 179, 3), (1054, .aload_n 0, 1), (1055, .sipush 180, 3), (1058, .newarray .int, 2), (1060, .putfield 182, 3), (1063, .aload_n 0, 1)] := dz_of (by decide +kernel)
theorem dX10_init_1029 : decode cX10_init 1029 = .ok (.sipush 300, 3) := dk_dX10_init_1029.1
theorem dX10_init_1032 : decode cX10_init 1032 = .ok (.newarray .boolean, 2) := dk_dX10_init_1029.2.1
theorem dX10_init_1034 : decode cX10_init 1034 = .ok (.putfield 173, 3) := dk_dX10_init_1029.2.2.1
theorem dX10_init_1037 : decode cX10_init 1037 = .ok (.aload_n 0, 1) := dk_dX10_init_1029.2.2.2.1
theorem dX10_init_1038 : decode cX10_init 1038 = .ok (.bipush 32, 2) := dk_dX10_init_1029.2.2.2.2.1
theorem dX10_init_1040 : decode cX10_init 1040 = .ok (.newarray .int, 2) := dk_dX10_init_1029.2.2.2.2.2.1
theorem dX10_init_1042 : decode cX10_init 1042 = .ok (.putfield 176, 3) := dk_dX10_init_1029.2.2.2.2.2.2.1
theorem dX10_init_1045 : decode cX10_init 1045 = .ok (.aload_n 0, 1) := dk_dX10_init_1029.2.2.2.2.2.2.2.1
theorem dk_dX10_init_1029_8 : dz_C cX10_init [(1046, .sipush 720, 3), (1049, .newarray .int, 2), (1051, .putfield 179, 3), (1054, .aload_n 0, 1), (1055, .sipush 180, 3), (1058, .newarray .int, 2), (1060, .putfield 182, 3), (1063, .aload_n 0, 1)] := dk_dX10_init_1029.2.2.2.2.2.2.2.2
theorem dX10_init_1046 : decode cX10_init 1046 = .ok (.sipush 720, 3) := dk_dX10_init_1029_8.1
theorem dX10_init_1049 : decode cX10_init 1049 = .ok (.newarray .int, 2) := dk_dX10_init_1029_8.2.1
theorem dX10_init_1051 : decode cX10_init 1051 = .ok (.putfield 179, 3) := dk_dX10_init_1029_8.2.2.1
theorem dX10_init_1054 : decode cX10_init 1054 = .ok (.aload_n 0, 1) := dk_dX10_init_1029_8.2.2.2.1
theorem dX10_init_1055 : decode cX10_init 1055 = .ok (.sipush 180, 3) := dk_dX10_init_1029_8.2.2.2.2.1
theorem dX10_init_1058 : decode cX10_init 1058 = .ok (.newarray .int, 2) := dk_dX10_init_1029_8.2.2.2.2.2.1
theorem dX10_init_1060 : decode cX10_init 1060 = .ok (.putfield 182, 3) := dk_dX10_init_1029_8.2.2.2.2.2.2.1
theorem dX10_init_1063 : decode cX10_init 1063 = .ok (.aload_n 0, 1) := dk_dX10_init_1029_8.2.2.2.2.2.2.2.1
theorem dk_dX10_init_1064 : dz_C cX10_init [(1064, .lconst 1, 1), (1065, .putfield 185, 3), (1068, .aload_n 0, 1), (1069, .iconst 5, 1), (1070, .newarray .char, 2), (1072, .dup, 1), (1073, .iconst 0, 1), (1074, .bipush 102, 2), (1076, .castore, 1), (1077, .dup, 1), (1078, .iconst 1, 1), (1079, .bipush 105, 2), (1081, .castore, 1), (1082, .dup, 1), (1083, .iconst 2, 1), (1084, .bipush 114, 2)] := dz_of (by decide +kernel)
theorem dX10_init_1064 : decode cX10_init 1064 = .ok (.lconst 1, 1) := dk_dX10_init_1064.1
theorem dX10_init_1065 : decode cX10_init 1065 = .ok (.putfield 185, 3) := dk_dX10_init_1064.2.1
theorem dX10_init_1068 : decode cX10_init 1068 = .ok (.aload_n 0, 1) := dk_dX10_init_1064.2.2.1
theorem dX10_init_1069 : decode cX10_init 1069 = .ok (.iconst 5, 1) := dk_dX10_init_1064.2.2.2.1
theorem dX10_init_1070 : decode cX10_init 1070 = .ok (.newarray .char, 2) := dk_dX10_init_1064.2.2.2.2.1
theorem dX10_init_1072 : decode cX10_init 1072 = .ok (.dup, 1) := dk_dX10_init_1064.2.2.2.2.2.1
theorem dX10_init_1073 : decode cX10_init 1073 = .ok (.iconst 0, 1) := dk_dX10_init_1064.2.2.2.2.2.2.1
theorem dX10_init_1074 : decode cX10_init 1074 = .ok (.bipush 102, 2) := dk_dX10_init_1064.2.2.2.2.2.2.2.1
theorem dk_dX10_init_1064_8 : dz_C cX10_init [(1076, .castore, 1), (1077, .dup, 1), (1078, .iconst 1, 1), (1079, .bipush 105, 2), (1081, .castore, 1), (1082, .dup, 1), (1083, .iconst 2, 1), (1084, .bipush 114, 2)] := dk_dX10_init_1064.2.2.2.2.2.2.2.2
theorem dX10_init_1076 : decode cX10_init 1076 = .ok (.castore, 1) := dk_dX10_init_1064_8.1
theorem dX10_init_1077 : decode cX10_init 1077 = .ok (.dup, 1) := dk_dX10_init_1064_8.2.1
theorem dX10_init_1078 : decode cX10_init 1078 = .ok (.iconst 1, 1) := dk_dX10_init_1064_8.2.2.1
theorem dX10_init_1079 : decode cX10_init 1079 = .ok (.bipush 105, 2) := dk_dX10_init_1064_8.2.2.2.1
theorem dX10_init_1081 : decode cX10_init 1081 = .ok (.castore, 1) := dk_dX10_init_1064_8.2.2.2.2.1
theorem dX10_init_1082 : decode cX10_init 1082 = .ok (.dup, 1) := dk_dX10_init_1064_8.2.2.2.2.2.1
theorem dX10_init_1083 : decode cX10_init 1083 = .ok (.iconst 2, 1) := dk_dX10_init_1064_8.2.2.2.2.2.2.1
theorem dX10_init_1084 : decode cX10_init 1084 = .ok (.bipush 114, 2) := dk_dX10_init_1064_8.2.2.2.2.2.2.2.1
theorem dk_dX10_init_1086 : dz_C cX10_init [(1086, .castore, 1), (1087, .dup, 1), (1088, .iconst 3, 1), (1089, .bipush 115, 2), (1091, .castore, 1), (1092, .dup, 1), (1093, .iconst 4, 1), (1094, .bipush 116, 2), (1096, .castore, 1), (1097, .putfield 189, 3), (1100, .aload_n 0, 1), (1101, .iconst 4, 1), (1102, .newarray .char, 2), (1104, .dup, 1), (1105, .iconst 0, 1), (1106, .bipush 108, 2)] := dz_of (by decide +kernel)
theorem dX10_init_1086 : decode cX10_init 1086 = .ok (.castore, 1) := dk_dX10_init_1086.1
theorem dX10_init_1087 : decode cX10_init 1087 = .ok (.dup, 1) := dk_dX10_init_1086.2.1
theorem dX10_init_1088 : decode cX10_init 1088 = .ok (.iconst 3, 1) := dk_dX10_init_1086.2.2.1
theorem dX10_init_1089 : decode cX10_init 1089 = .ok (.bipush 115, 2) := dk_dX10_init_1086.2.2.2.1
theorem dX10_init_1091 : decode cX10_init 1091 = .ok (.castore, 1) := dk_dX10_init_1086.2.2.2.2.1
theorem dX10_init_1092 : decode cX10_init 1092 = .ok (.dup, 1) := dk_dX10_init_1086.2.2.2.2.2.1
theorem dX10_init_1093 : decode cX10_init 1093 = .ok (.iconst 4, 1) := dk_dX10_init_1086.2.2.2.2.2.2.1
theorem dX10_init_1094 : decode cX10_init 1094 = .ok (.bipush 116, 2) := dk_dX10_init_1086.2.2.2.2.2.2.2.1
theorem dk_dX10_init_1086_8 : dz_C cX10_init [(1096, .castore, 1), (1097, .putfield 189, 3), (1100, .aload_n 0, 1), (1101, .iconst 4, 1), (1102, .newarray .char, 2), (1104, .dup, 1), (1105, .iconst 0, 1), (1106, .bipush 108, 2)] := dk_dX10_init_1086.2.2.2.2.2.2.2.2
theorem dX10_init_1096 : decode cX10_init 1096 = .ok (.castore, 1) := dk_dX10_init_1086_8.1
theorem dX10_init_1097 : decode cX10_init 1097 = .ok (.putfield 189, 3) := dk_dX10_init_1086_8.2.1
theorem dX10_init_1100 : decode cX10_init 1100 = .ok (.aload_n 0, 1) := dk_dX10_init_1086_8.2.2.1
theorem dX10_init_1101 : decode cX10_init 1101 = .ok (.iconst 4, 1) := dk_dX10_init_1086_8.2.2.2.1
theorem dX10_init_1102 : decode cX10_init 1102 = .ok (.newarray .char, 2) := dk_dX10_init_1086_8.2.2.2.2.1
theorem dX10_init_1104 : decode cX10_init 1104 = .ok (.dup, 1) := dk_dX10_init_1086_8.2.2.2.2.2.1
theorem dX10_init_1105 : decode cX10_init 1105 = .ok (.iconst 0, 1) := dk_dX10_init_1086_8.2.2.2.2.2.2.1
theorem dX10_init_1106 : decode cX10_init 1106 = .ok (.bipush 108, 2) := dk_dX10_init_1086_8.2.2.2.2.2.2.2.1
theorem dk_dX10_init_1108 : dz_C cX10_init [(1108, .castore, 1), (1109, .dup, 1), (1110, .iconst 1, 1), (1111, .bipush 97, 2), (1113, .castore, 1), (1114, .dup, 1), (1115, .iconst 2, 1), (1116, .bipush 115, 2), (1118, .castore, 1), (1119, .dup, 1), (1120, .iconst 3, 1), (1121, .bipush 116, 2), (1123, .castore, 1), (1124, .putfield 192, 3), (1127, .aload_n 0, 1), (1128, .iconst 5, 1)] := dz_of (by decide +kernel)
theorem dX10_init_1108 : decode cX10_init 1108 = .ok (.castore, 1) := dk_dX10_init_1108.1
theorem dX10_init_1109 : decode cX10_init 1109 = .ok (.dup, 1) := dk_dX10_init_1108.2.1
theorem dX10_init_1110 : decode cX10_init 1110 = .ok (.iconst 1, 1) := dk_dX10_init_1108.2.2.1
theorem dX10_init_1111 : decode cX10_init 1111 = .ok (.bipush 97, 2) := dk_dX10_init_1108.2.2.2.1
theorem dX10_init_1113 : decode cX10_init 1113 = .ok (.castore, 1) := dk_dX10_init_1108.2.2.2.2.1
theorem dX10_init_1114 : decode cX10_init 1114 = .ok (.dup, 1) := dk_dX10_init_1108.2.2.2.2.2.1
theorem dX10_init_1115 : decode cX10_init 1115 = .ok (.iconst 2, 1) := dk_dX10_init_1108.2.2.2.2.2.2.1
theorem dX10_init_1116 : decode cX10_init 1116 = .ok (.bipush 115, 2) := dk_dX10_init_1108.2.2.2.2.2.2.2.1
theorem dk_dX10_init_1108_8 : dz_C cX10_init [(1118, .castore, 1), (1119, .dup, 1), (1120, .iconst 3, 1), (1121, .bipush 116, 2), (1123, .castore, 1), (1124, .putfield 192, 3), (1127, .aload_n 0, 1), (1128, .iconst 5, 1)] := dk_dX10_init_1108.2.2.2.2.2.2.2.2
theorem dX10_init_1118 : decode cX10_init 1118 = .ok (.castore, 1) := dk_dX10_init_1108_8.1
theorem dX10_init_1119 : decode cX10_init 1119 = .ok (.dup, 1) := dk_dX10_init_1108_8.2.1
theorem dX10_init_1120 : decode cX10_init 1120 = .ok (.iconst 3, 1) := dk_dX10_init_1108_8.2.2.1
theorem dX10_init_1121 : decode cX10_init 1121 = .ok (.bipush 116, 2) := dk_dX10_init_1108_8.2.2.2.1
theorem dX10_init_1123 : decode cX10_init 1123 = .ok (.castore, 1) := dk_dX10_init_1108_8.2.2.2.2.1
theorem dX10_init_1124 : decode cX10_init 1124 = .ok (.putfield 192, 3) := dk_dX10_init_1108_8.2.2.2.2.2.1
theorem dX10_init_1127 : decode cX10_init 1127 = .ok (.aload_n 0, 1) := dk_dX10_init_1108_8.2.2.2.2.2.2.1
theorem dX10_init_1128 : decode cX10_init 1128 = .ok (.iconst 5, 1) := dk_dX10_init_1108_8.2.2.2.2.2.2.2.1
theorem dk_dX10_init_1129 : dz_C cX10_init [(1129, .newarray .char, 2), (1131, .dup, 1), (1132, .iconst 0, 1), (1133, .bipush 111, 2), (1135, .castore, 1), (1136, .dup, 1), (1137, .iconst 1, 1), (1138, .bipush 102, 2), (1140, .castore, 1), (1141, .dup, 1), (1142, .iconst 2, 1), (1143, .bipush 116, 2), (1145, .castore, 1), (1146, .dup, 1), (1147, .iconst 3, 1), (1148, .bipush 101, 2)] := dz_of (by decide +kernel)
theorem dX10_init_1129 : decode cX10_init 1129 = .ok (.newarray .char, 2) := dk_dX10_init_1129.1
theorem dX10_init_1131 : decode cX10_init 1131 = .ok (.dup, 1) := dk_dX10_init_1129.2.1
theorem dX10_init_1132 : decode cX10_init 1132 = .ok (.iconst 0, 1) := dk_dX10_init_1129.2.2.1
theorem dX10_init_1133 : decode cX10_init 1133 = .ok (.bipush 111, 2) := dk_dX10_init_1129.2.2.2.1
theorem dX10_init_1135 : decode cX10_init 1135 = .ok (.castore, 1) := dk_dX10_init_1129.2.2.2.2.1
theorem dX10_init_1136 : decode cX10_init 1136 = .ok (.dup, 1) := dk_dX10_init_1129.2.2.2.2.2.1
theorem dX10_init_1137 : decode cX10_init 1137 = .ok (.iconst 1, 1) := dk_dX10_init_1129.2.2.2.2.2.2.1
theorem dX10_init_1138 : decode cX10_init 1138 = .ok (.bipush 102, 2) := dk_dX10_init_1129.2.2.2.2.2.2.2.1
theorem dk_dX10_init_1129_8 : dz_C cX10_init [(1140, .castore, 1), (1141, .dup, 1), (1142, .iconst 2, 1), (1143, .bipush 116, 2), (1145, .castore, 1), (1146, .dup, 1), (1147, .iconst 3, 1), (1148, .bipush 101, 2)] := dk_dX10_init_1129.2.2.2.2.2.2.2.2
theorem dX10_init_1140 : decode cX10_init 1140 = .ok (.castore, 1) := dk_dX10_init_1129_8.1
theorem dX10_init_1141 : decode cX10_init 1141 = .ok (.dup, 1) := dk_dX10_init_1129_8.2.1
theorem dX10_init_1142 : decode cX10_init 1142 = .ok (.iconst 2, 1) := dk_dX10_init_1129_8.2.2.1
theorem dX10_init_1143 : decode cX10_init 1143 = .ok (.bipush 116, 2) := dk_dX10_init_1129_8.2.2.2.1
theorem dX10_init_1145 : decode cX10_init 1145 = .ok (.castore, 1) := dk_dX10_init_1129_8.2.2.2.2.1
theorem dX10_init_1146 : decode cX10_init 1146 = .ok (.dup, 1) := dk_dX10_init_1129_8.2.2.2.2.2.1
theorem dX10_init_1147 : decode cX10_init 1147 = .ok (.iconst 3, 1) := dk_dX10_init_1129_8.2.2.2.2.2.2.1
theorem dX10_init_1148 : decode cX10_init 1148 = .ok (.bipush 101, 2) := dk_dX10_init_1129_8.2.2.2.2.2.2.2.1
theorem dk_dX10_init_1150 : dz_C cX10_init [(1150, .castore, 1), (1151, .dup, 1), (1152, .iconst 4, 1), (1153, .bipush 110, 2), (1155, .castore, 1), (1156, .putfield 195, 3), (1159, .aload_n 0, 1), (1160, .iconst 5, 1), (1161, .newarray .char, 2), (1163, .dup, 1), (1164, .iconst 0, 1), (1165, .bipush 116, 2), (1167, .castore, 1), (1168, .dup, 1), (1169, .iconst 1, 1), (1170, .bipush 111, 2)] := dz_of (by decide +kernel)
theorem dX10_init_1150 : decode cX10_init 1150 = .ok (.castore, 1) := dk_dX10_init_1150.1
theorem dX10_init_1151 : decode cX10_init 1151 = .ok (.dup, 1) := dk_dX10_init_1150.2.1
theorem dX10_init_1152 : decode cX10_init 1152 = .ok (.iconst 4, 1) := dk_dX10_init_1150.2.2.1
theorem dX10_init_1153 : decode cX10_init 1153 = .ok (.bipush 110, 2) := dk_dX10_init_1150.2.2.2.1
theorem dX10_init_1155 : decode cX10_init 1155 = .ok (.castore, 1) := dk_dX10_init_1150.2.2.2.2.1
theorem dX10_init_1156 : decode cX10_init 1156 = .ok (.putfield 195, 3) := dk_dX10_init_1150.2.2.2.2.2.1
theorem dX10_init_1159 : decode cX10_init 1159 = .ok (.aload_n 0, 1) := dk_dX10_init_1150.2.2.2.2.2.2.1
theorem dX10_init_1160 : decode cX10_init 1160 = .ok (.iconst 5, 1) := dk_dX10_init_1150.2.2.2.2.2.2.2.1
theorem dk_dX10_init_1150_8 : dz_C cX10_init [(1161, .newarray .char, 2), (1163, .dup, 1), (1164, .iconst 0, 1), (1165, .bipush 116, 2), (1167, .castore, 1), (1168, .dup, 1), (1169, .iconst 1, 1), (1170, .bipush 111, 2)] := dk_dX10_init_1150.2.2.2.2.2.2.2.2
theorem dX10_init_1161 : decode cX10_init 1161 = .ok (.newarray .char, 2) := dk_dX10_init_1150_8.1
theorem dX10_init_1163 : decode cX10_init 1163 = .ok (.dup, 1) := dk_dX10_init_1150_8.2.1
theorem dX10_init_1164 : decode cX10_init 1164 = .ok (.iconst 0, 1) := dk_dX10_init_1150_8.2.2.1
theorem dX10_init_1165 : decode cX10_init 1165 = .ok (.bipush 116, 2) := dk_dX10_init_1150_8.2.2.2.1
theorem dX10_init_1167 : decode cX10_init 1167 = .ok (.castore, 1) := dk_dX10_init_1150_8.2.2.2.2.1
theorem dX10_init_1168 : decode cX10_init 1168 = .ok (.dup, 1) := dk_dX10_init_1150_8.2.2.2.2.2.1
theorem dX10_init_1169 : decode cX10_init 1169 = .ok (.iconst 1, 1) := dk_dX10_init_1150_8.2.2.2.2.2.2.1
theorem dX10_init_1170 : decode cX10_init 1170 = .ok (.bipush 111, 2) := dk_dX10_init_1150_8.2.2.2.2.2.2.2.1
theorem dk_dX10_init_1172 : dz_C cX10_init [(1172, .castore, 1), (1173, .dup, 1), (1174, .iconst 2, 1), (1175, .bipush 116, 2), (1177, .castore, 1), (1178, .dup, 1), (1179, .iconst 3, 1), (1180, .bipush 97, 2), (1182, .castore, 1), (1183, .dup, 1), (1184, .iconst 4, 1), (1185, .bipush 108, 2), (1187, .castore, 1), (1188, .putfield 198, 3), (1191, .aload_n 0, 1), (1192, .iconst 4, 1)] := dz_of (by decide +kernel)
theorem dX10_init_1172 : decode cX10_init 1172 = .ok (.castore, 1) := dk_dX10_init_1172.1
theorem dX10_init_1173 : decode cX10_init 1173 = .ok (.dup, 1) := dk_dX10_init_1172.2.1
theorem dX10_init_1174 : decode cX10_init 1174 = .ok (.iconst 2, 1) := dk_dX10_init_1172.2.2.1
theorem dX10_init_1175 : decode cX10_init 1175 = .ok (.bipush 116, 2) := dk_dX10_init_1172.2.2.2.1
theorem dX10_init_1177 : decode cX10_init 1177 = .ok (.castore, 1) := dk_dX10_init_1172.2.2.2.2.1
theorem dX10_init_1178 : decode cX10_init 1178 = .ok (.dup, 1) := dk_dX10_init_1172.2.2.2.2.2.1
theorem dX10_init_1179 : decode cX10_init 1179 = .ok (.iconst 3, 1) := dk_dX10_init_1172.2.2.2.2.2.2.1
theorem dX10_init_1180 : decode cX10_init 1180 = .ok (.bipush 97, 2) := dk_dX10_init_1172.2.2.2.2.2.2.2.1
theorem dk_dX10_init_1172_8 : dz_C cX10_init [(1182, .castore, 1), (1183, .dup, 1), (1184, .iconst 4, 1), (1185, .bipush 108, 2), (1187, .castore, 1), (1188, .putfield 198, 3), (1191, .aload_n 0, 1), (1192, .iconst 4, 1)] := dk_dX10_init_1172.2.2.2.2.2.2.2.2
theorem dX10_init_1182 : decode cX10_init 1182 = .ok (.castore, 1) := dk_dX10_init_1172_8.1
theorem dX10_init_1183 : decode cX10_init 1183 = .ok (.dup, 1) := dk_dX10_init_1172_8.2.1
theorem dX10_init_1184 : decode cX10_init 1184 = .ok (.iconst 4, 1) := dk_dX10_init_1172_8.2.2.1
theorem dX10_init_1185 : decode cX10_init 1185 = .ok (.bipush 108, 2) := dk_dX10_init_1172_8.2.2.2.1
theorem dX10_init_1187 : decode cX10_init 1187 = .ok (.castore, 1) := dk_dX10_init_1172_8.2.2.2.2.1
theorem dX10_init_1188 : decode cX10_init 1188 = .ok (.putfield 198, 3) := dk_dX10_init_1172_8.2.2.2.2.2.1
theorem dX10_init_1191 : decode cX10_init 1191 = .ok (.aload_n 0, 1) := dk_dX10_init_1172_8.2.2.2.2.2.2.1
theorem dX10_init_1192 : decode cX10_init 1192 = .ok (.iconst 4, 1) := dk_dX10_init_1172_8.2.2.2.2.2.2.2.1
theorem dk_dX10_init_1193 : dz_C cX10_init [(1193, .newarray .char, 2), (1195, .dup, 1), (1196, .iconst 0, 1), (1197, .bipush 109, 2), (1199, .castore, 1), (1200, .dup, 1), (1201, .iconst 1, 1), (1202, .bipush 111, 2), (1204, .castore, 1), (1205, .dup, 1), (1206, .iconst 2, 1), (1207, .bipush 115, 2), (1209, .castore, 1), (1210, .dup, 1), (1211, .iconst 3, 1), (1212, .bipush 116, 2)] := dz_of (by decide +kernel)
theorem dX10_init_1193 : decode cX10_init 1193 = .ok (.newarray .char, 2) := dk_dX10_init_1193.1
theorem dX10_init_1195 : decode cX10_init 1195 = .ok (.dup, 1) := dk_dX10_init_1193.2.1
theorem dX10_init_1196 : decode cX10_init 1196 = .ok (.iconst 0, 1) := dk_dX10_init_1193.2.2.1
theorem dX10_init_1197 : decode cX10_init 1197 = .ok (.bipush 109, 2) := dk_dX10_init_1193.2.2.2.1
theorem dX10_init_1199 : decode cX10_init 1199 = .ok (.castore, 1) := dk_dX10_init_1193.2.2.2.2.1
theorem dX10_init_1200 : decode cX10_init 1200 = .ok (.dup, 1) := dk_dX10_init_1193.2.2.2.2.2.1
theorem dX10_init_1201 : decode cX10_init 1201 = .ok (.iconst 1, 1) := dk_dX10_init_1193.2.2.2.2.2.2.1
theorem dX10_init_1202 : decode cX10_init 1202 = .ok (.bipush 111, 2) := dk_dX10_init_1193.2.2.2.2.2.2.2.1
theorem dk_dX10_init_1193_8 : dz_C cX10_init [(1204, .castore, 1), (1205, .dup, 1), (1206, .iconst 2, 1), (1207, .bipush 115, 2), (1209, .castore, 1), (1210, .dup, 1), (1211, .iconst 3, 1), (1212, .bipush 116, 2)] := dk_dX10_init_1193.2.2.2.2.2.2.2.2
theorem dX10_init_1204 : decode cX10_init 1204 = .ok (.castore, 1) := dk_dX10_init_1193_8.1
theorem dX10_init_1205 : decode cX10_init 1205 = .ok (.dup, 1) := dk_dX10_init_1193_8.2.1
theorem dX10_init_1206 : decode cX10_init 1206 = .ok (.iconst 2, 1) := dk_dX10_init_1193_8.2.2.1
theorem dX10_init_1207 : decode cX10_init 1207 = .ok (.bipush 115, 2) := dk_dX10_init_1193_8.2.2.2.1
theorem dX10_init_1209 : decode cX10_init 1209 = .ok (.castore, 1) := dk_dX10_init_1193_8.2.2.2.2.1
theorem dX10_init_1210 : decode cX10_init 1210 = .ok (.dup, 1) := dk_dX10_init_1193_8.2.2.2.2.2.1
theorem dX10_init_1211 : decode cX10_init 1211 = .ok (.iconst 3, 1) := dk_dX10_init_1193_8.2.2.2.2.2.2.1
theorem dX10_init_1212 : decode cX10_init 1212 = .ok (.bipush 116, 2) := dk_dX10_init_1193_8.2.2.2.2.2.2.2.1
theorem dk_dX10_init_1214 : dz_C cX10_init [(1214, .castore, 1), (1215, .putfield 201, 3), (1218, .aload_n 0, 1), (1219, .iconst 5, 1), (1220, .newarray .char, 2), (1222, .dup, 1), (1223, .iconst 0, 1), (1224, .bipush 108, 2), (1226, .castore, 1), (1227, .dup, 1), (1228, .iconst 1, 1), (1229, .bipush 101, 2), (1231, .castore, 1), (1232, .dup, 1), (1233, .iconst 2, 1), (1234, .bipush 97, 2)] := dz_of (by decide +kernel)
theorem dX10_init_1214 : decode cX10_init 1214 = .ok (.castore, 1) := dk_dX10_init_1214.1
theorem dX10_init_1215 : decode cX10_init 1215 = .ok (.putfield 201, 3) := dk_dX10_init_1214.2.1
theorem dX10_init_1218 : decode cX10_init 1218 = .ok (.aload_n 0, 1) := dk_dX10_init_1214.2.2.1
theorem dX10_init_1219 : decode cX10_init 1219 = .ok (.iconst 5, 1) := dk_dX10_init_1214.2.2.2.1
theorem dX10_init_1220 : decode cX10_init 1220 = .ok (.newarray .char, 2) := dk_dX10_init_1214.2.2.2.2.1
theorem dX10_init_1222 : decode cX10_init 1222 = .ok (.dup, 1) := dk_dX10_init_1214.2.2.2.2.2.1
theorem dX10_init_1223 : decode cX10_init 1223 = .ok (.iconst 0, 1) := dk_dX10_init_1214.2.2.2.2.2.2.1
theorem dX10_init_1224 : decode cX10_init 1224 = .ok (.bipush 108, 2) := dk_dX10_init_1214.2.2.2.2.2.2.2.1
theorem dk_dX10_init_1214_8 : dz_C cX10_init [(1226, .castore, 1), (1227, .dup, 1), (1228, .iconst 1, 1), (1229, .bipush 101, 2), (1231, .castore, 1), (1232, .dup, 1), (1233, .iconst 2, 1), (1234, .bipush 97, 2)] := dk_dX10_init_1214.2.2.2.2.2.2.2.2
theorem dX10_init_1226 : decode cX10_init 1226 = .ok (.castore, 1) := dk_dX10_init_1214_8.1
theorem dX10_init_1227 : decode cX10_init 1227 = .ok (.dup, 1) := dk_dX10_init_1214_8.2.1
theorem dX10_init_1228 : decode cX10_init 1228 = .ok (.iconst 1, 1) := dk_dX10_init_1214_8.2.2.1
theorem dX10_init_1229 : decode cX10_init 1229 = .ok (.bipush 101, 2) := dk_dX10_init_1214_8.2.2.2.1
theorem dX10_init_1231 : decode cX10_init 1231 = .ok (.castore, 1) := dk_dX10_init_1214_8.2.2.2.2.1
theorem dX10_init_1232 : decode cX10_init 1232 = .ok (.dup, 1) := dk_dX10_init_1214_8.2.2.2.2.2.1
theorem dX10_init_1233 : decode cX10_init 1233 = .ok (.iconst 2, 1) := dk_dX10_init_1214_8.2.2.2.2.2.2.1
theorem dX10_init_1234 : decode cX10_init 1234 = .ok (.bipush 97, 2) := dk_dX10_init_1214_8.2.2.2.2.2.2.2.1
theorem dk_dX10_init_1236 : dz_C cX10_init [(1236, .castore, 1), (1237, .dup, 1), (1238, .iconst 3, 1), (1239, .bipush 115, 2), (1241, .castore, 1), (1242, .dup, 1), (1243, .iconst 4, 1), (1244, .bipush 116, 2), (1246, .castore, 1), (1247, .putfield 204, 3), (1250, .aload_n 0, 1), (1251, .iconst 3, 1), (1252, .newarray .char, 2), (1254, .dup, 1), (1255, .iconst 0, 1), (1256, .bipush 110, 2)] := dz_of (by decide +kernel)
theorem dX10_init_1236 : decode cX10_init 1236 = .ok (.castore, 1) := dk_dX10_init_1236.1
theorem dX10_init_1237 : decode cX10_init 1237 = .ok (.dup, 1) := dk_dX10_init_1236.2.1
theorem dX10_init_1238 : decode cX10_init 1238 = .ok (.iconst 3, 1) := dk_dX10_init_1236.2.2.1
theorem dX10_init_1239 : decode cX10_init 1239 = .ok (.bipush 115, 2) := dk_dX10_init_1236.2.2.2.1
theorem dX10_init_1241 : decode cX10_init 1241 = .ok (.castore, 1) := dk_dX10_init_1236.2.2.2.2.1
theorem dX10_init_1242 : decode cX10_init 1242 = .ok (.dup, 1) := dk_dX10_init_1236.2.2.2.2.2.1
theorem dX10_init_1243 : decode cX10_init 1243 = .ok (.iconst 4, 1) := dk_dX10_init_1236.2.2.2.2.2.2.1
theorem dX10_init_1244 : decode cX10_init 1244 = .ok (.bipush 116, 2) := dk_dX10_init_1236.2.2.2.2.2.2.2.1
theorem dk_dX10_init_1236_8 : dz_C cX10_init [(1246, .castore, 1), (1247, .putfield 204, 3), (1250, .aload_n 0, 1), (1251, .iconst 3, 1), (1252, .newarray .char, 2), (1254, .dup, 1), (1255, .iconst 0, 1), (1256, .bipush 110, 2)] := dk_dX10_init_1236.2.2.2.2.2.2.2.2
theorem dX10_init_1246 : decode cX10_init 1246 = .ok (.castore, 1) := dk_dX10_init_1236_8.1
theorem dX10_init_1247 : decode cX10_init 1247 = .ok (.putfield 204, 3) := dk_dX10_init_1236_8.2.1
theorem dX10_init_1250 : decode cX10_init 1250 = .ok (.aload_n 0, 1) := dk_dX10_init_1236_8.2.2.1
theorem dX10_init_1251 : decode cX10_init 1251 = .ok (.iconst 3, 1) := dk_dX10_init_1236_8.2.2.2.1
theorem dX10_init_1252 : decode cX10_init 1252 = .ok (.newarray .char, 2) := dk_dX10_init_1236_8.2.2.2.2.1
theorem dX10_init_1254 : decode cX10_init 1254 = .ok (.dup, 1) := dk_dX10_init_1236_8.2.2.2.2.2.1
theorem dX10_init_1255 : decode cX10_init 1255 = .ok (.iconst 0, 1) := dk_dX10_init_1236_8.2.2.2.2.2.2.1
theorem dX10_init_1256 : decode cX10_init 1256 = .ok (.bipush 110, 2) := dk_dX10_init_1236_8.2.2.2.2.2.2.2.1
theorem dk_dX10_init_1258 : dz_C cX10_init [(1258, .castore, 1), (1259, .dup, 1), (1260, .iconst 1, 1), (1261, .bipush 111, 2), (1263, .castore, 1), (1264, .dup, 1), (1265, .iconst 2, 1), (1266, .bipush 116, 2), (1268, .castore, 1), (1269, .putfield 207, 3), (1272, .aload_n 0, 1), (1273, .iconst 3, 1), (1274, .newarray .char, 2), (1276, .dup, 1), (1277, .iconst 0, 1), (1278, .bipush 97, 2)] := dz_of (by decide +kernel)
theorem dX10_init_1258 : decode cX10_init 1258 = .ok (.castore, 1) := dk_dX10_init_1258.1
theorem dX10_init_1259 : decode cX10_init 1259 = .ok (.dup, 1) := dk_dX10_init_1258.2.1
theorem dX10_init_1260 : decode cX10_init 1260 = .ok (.iconst 1, 1) := dk_dX10_init_1258.2.2.1
theorem dX10_init_1261 : decode cX10_init 1261 = .ok (.bipush 111, 2) := dk_dX10_init_1258.2.2.2.1
theorem dX10_init_1263 : decode cX10_init 1263 = .ok (.castore, 1) := dk_dX10_init_1258.2.2.2.2.1
theorem dX10_init_1264 : decode cX10_init 1264 = .ok (.dup, 1) := dk_dX10_init_1258.2.2.2.2.2.1
theorem dX10_init_1265 : decode cX10_init 1265 = .ok (.iconst 2, 1) := dk_dX10_init_1258.2.2.2.2.2.2.1
theorem dX10_init_1266 : decode cX10_init 1266 = .ok (.bipush 116, 2) := dk_dX10_init_1258.2.2.2.2.2.2.2.1
theorem dk_dX10_init_1258_8 : dz_C cX10_init [(1268, .castore, 1), (1269, .putfield 207, 3), (1272, .aload_n 0, 1), (1273, .iconst 3, 1), (1274, .newarray .char, 2), (1276, .dup, 1), (1277, .iconst 0, 1), (1278, .bipush 97, 2)] := dk_dX10_init_1258.2.2.2.2.2.2.2.2
theorem dX10_init_1268 : decode cX10_init 1268 = .ok (.castore, 1) := dk_dX10_init_1258_8.1
theorem dX10_init_1269 : decode cX10_init 1269 = .ok (.putfield 207, 3) := dk_dX10_init_1258_8.2.1
theorem dX10_init_1272 : decode cX10_init 1272 = .ok (.aload_n 0, 1) := dk_dX10_init_1258_8.2.2.1
theorem dX10_init_1273 : decode cX10_init 1273 = .ok (.iconst 3, 1) := dk_dX10_init_1258_8.2.2.2.1
theorem dX10_init_1274 : decode cX10_init 1274 = .ok (.newarray .char, 2) := dk_dX10_init_1258_8.2.2.2.2.1
theorem dX10_init_1276 : decode cX10_init 1276 = .ok (.dup, 1) := dk_dX10_init_1258_8.2.2.2.2.2.1
theorem dX10_init_1277 : decode cX10_init 1277 = .ok (.iconst 0, 1) := dk_dX10_init_1258_8.2.2.2.2.2.2.1
theorem dX10_init_1278 : decode cX10_init 1278 = .ok (.bipush 97, 2) := dk_dX10_init_1258_8.2.2.2.2.2.2.2.1
theorem dk_dX10_init_1280 : dz_C cX10_init [(1280, .castore, 1), (1281, .dup, 1), (1282, .iconst 1, 1), (1283, .bipush 110, 2), (1285, .castore, 1), (1286, .dup, 1), (1287, .iconst 2, 1), (1288, .bipush 100, 2), (1290, .castore, 1), (1291, .putfield 210, 3), (1294, .aload_n 0, 1), (1295, .iconst 2, 1), (1296, .newarray .char, 2), (1298, .dup, 1), (1299, .iconst 0, 1), (1300, .bipush 111, 2)] := dz_of (by decide +kernel)
theorem dX10_init_1280 : decode cX10_init 1280 = .ok (.castore, 1) := dk_dX10_init_1280.1
theorem dX10_init_1281 : decode cX10_init 1281 = .ok (.dup, 1) := dk_dX10_init_1280.2.1
theorem dX10_init_1282 : decode cX10_init 1282 = .ok (.iconst 1, 1) := dk_dX10_init_1280.2.2.1
theorem dX10_init_1283 : decode cX10_init 1283 = .ok (.bipush 110, 2) := dk_dX10_init_1280.2.2.2.1
theorem dX10_init_1285 : decode cX10_init 1285 = .ok (.castore, 1) := dk_dX10_init_1280.2.2.2.2.1
theorem dX10_init_1286 : decode cX10_init 1286 = .ok (.dup, 1) := dk_dX10_init_1280.2.2.2.2.2.1
theorem dX10_init_1287 : decode cX10_init 1287 = .ok (.iconst 2, 1) := dk_dX10_init_1280.2.2.2.2.2.2.1
theorem dX10_init_1288 : decode cX10_init 1288 = .ok (.bipush 100, 2) := dk_dX10_init_1280.2.2.2.2.2.2.2.1
theorem dk_dX10_init_1280_8 : dz_C cX10_init [(1290, .castore, 1), (1291, .putfield 210, 3), (1294, .aload_n 0, 1), (1295, .iconst 2, 1), (1296, .newarray .char, 2), (1298, .dup, 1), (1299, .iconst 0, 1), (1300, .bipush 111, 2)] := dk_dX10_init_1280.2.2.2.2.2.2.2.2
theorem dX10_init_1290 : decode cX10_init 1290 = .ok (.castore, 1) := dk_dX10_init_1280_8.1
theorem dX10_init_1291 : decode cX10_init 1291 = .ok (.putfield 210, 3) := dk_dX10_init_1280_8.2.1
theorem dX10_init_1294 : decode cX10_init 1294 = .ok (.aload_n 0, 1) := dk_dX10_init_1280_8.2.2.1
theorem dX10_init_1295 : decode cX10_init 1295 = .ok (.iconst 2, 1) := dk_dX10_init_1280_8.2.2.2.1
theorem dX10_init_1296 : decode cX10_init 1296 = .ok (.newarray .char, 2) := dk_dX10_init_1280_8.2.2.2.2.1
theorem dX10_init_1298 : decode cX10_init 1298 = .ok (.dup, 1) := dk_dX10_init_1280_8.2.2.2.2.2.1
theorem dX10_init_1299 : decode cX10_init 1299 = .ok (.iconst 0, 1) := dk_dX10_init_1280_8.2.2.2.2.2.2.1
theorem dX10_init_1300 : decode cX10_init 1300 = .ok (.bipush 111, 2) := dk_dX10_init_1280_8.2.2.2.2.2.2.2.1
theorem dk_dX10_init_1302 : dz_C cX10_init [(1302, .castore, 1), (1303, .dup, 1), (1304, .iconst 1, 1), (1305, .bipush 114, 2), (1307, .castore, 1), (1308, .putfield 213, 3), (1311, .aload_n 0, 1), (1312, .iconst 3, 1), (1313, .newarray .char, 2), (1315, .dup, 1), (1316, .iconst 0, 1), (1317, .bipush 97, 2), (1319, .castore, 1), (1320, .dup, 1), (1321, .iconst 1, 1), (1322, .bipush 108, 2)] := dz_of (by decide +kernel)
theorem dX10_init_1302 : decode cX10_init 1302 = .ok (.castore, 1) := dk_dX10_init_1302.1
theorem dX10_init_1303 : decode cX10_init 1303 = .ok (.dup, 1) := dk_dX10_init_1302.2.1
theorem dX10_init_1304 : decode cX10_init 1304 = .ok (.iconst 1, 1) := dk_dX10_init_1302.2.2.1
theorem dX10_init_1305 : decode cX10_init 1305 = .ok (.bipush 114, 2) := dk_dX10_init_1302.2.2.2.1
theorem dX10_init_1307 : decode cX10_init 1307 = .ok (.castore, 1) := dk_dX10_init_1302.2.2.2.2.1
theorem dX10_init_1308 : decode cX10_init 1308 = .ok (.putfield 213, 3) := dk_dX10_init_1302.2.2.2.2.2.1
theorem dX10_init_1311 : decode cX10_init 1311 = .ok (.aload_n 0, 1) := dk_dX10_init_1302.2.2.2.2.2.2.1
theorem dX10_init_1312 : decode cX10_init 1312 = .ok (.iconst 3, 1) := dk_dX10_init_1302.2.2.2.2.2.2.2.1
theorem dk_dX10_init_1302_8 : dz_C cX10_init [(1313, .newarray .char, 2), (1315, .dup, 1), (1316, .iconst 0, 1), (1317, .bipush 97, 2), (1319, .castore, 1), (1320, .dup, 1), (1321, .iconst 1, 1), (1322, .bipush 108, 2)] := dk_dX10_init_1302.2.2.2.2.2.2.2.2
theorem dX10_init_1313 : decode cX10_init 1313 = .ok (.newarray .char, 2) := dk_dX10_init_1302_8.1
theorem dX10_init_1315 : decode cX10_init 1315 = .ok (.dup, 1) := dk_dX10_init_1302_8.2.1
theorem dX10_init_1316 : decode cX10_init 1316 = .ok (.iconst 0, 1) := dk_dX10_init_1302_8.2.2.1
theorem dX10_init_1317 : decode cX10_init 1317 = .ok (.bipush 97, 2) := dk_dX10_init_1302_8.2.2.2.1
theorem dX10_init_1319 : decode cX10_init 1319 = .ok (.castore, 1) := dk_dX10_init_1302_8.2.2.2.2.1
theorem dX10_init_1320 : decode cX10_init 1320 = .ok (.dup, 1) := dk_dX10_init_1302_8.2.2.2.2.2.1
theorem dX10_init_1321 : decode cX10_init 1321 = .ok (.iconst 1, 1) := dk_dX10_init_1302_8.2.2.2.2.2.2.1
theorem dX10_init_1322 : decode cX10_init 1322 = .ok (.bipush 108, 2) := dk_dX10_init_1302_8.2.2.2.2.2.2.2.1
theorem dk_dX10_init_1324 : dz_C cX10_init [(1324, .castore, 1), (1325, .dup, 1), (1326, .iconst 2, 1), (1327, .bipush 108, 2), (1329, .castore, 1), (1330, .putfield 216, 3), (1333, .aload_n 0, 1), (1334, .iconst 3, 1), (1335, .newarray .char, 2), (1337, .dup, 1), (1338, .iconst 0, 1), (1339, .bipush 109, 2), (1341, .castore, 1), (1342, .dup, 1), (1343, .iconst 1, 1), (1344, .bipush 105, 2)] := dz_of (by decide +kernel)
theorem dX10_init_1324 : decode cX10_init 1324 = .ok (.castore, 1) := dk_dX10_init_1324.1
theorem dX10_init_1325 : decode cX10_init 1325 = .ok (.dup, 1) := dk_dX10_init_1324.2.1
theorem dX10_init_1326 : decode cX10_init 1326 = .ok (.iconst 2, 1) := dk_dX10_init_1324.2.2.1
theorem dX10_init_1327 : decode cX10_init 1327 = .ok (.bipush 108, 2) := dk_dX10_init_1324.2.2.2.1
theorem dX10_init_1329 : decode cX10_init 1329 = .ok (.castore, 1) := dk_dX10_init_1324.2.2.2.2.1
theorem dX10_init_1330 : decode cX10_init 1330 = .ok (.putfield 216, 3) := dk_dX10_init_1324.2.2.2.2.2.1
theorem dX10_init_1333 : decode cX10_init 1333 = .ok (.aload_n 0, 1) := dk_dX10_init_1324.2.2.2.2.2.2.1
theorem dX10_init_1334 : decode cX10_init 1334 = .ok (.iconst 3, 1) := dk_dX10_init_1324.2.2.2.2.2.2.2.1
theorem dk_dX10_init_1324_8 : dz_C cX10_init [(1335, .newarray .char, 2), (1337, .dup, 1), (1338, .iconst 0, 1), (1339, .bipush 109, 2), (1341, .castore, 1), (1342, .dup, 1), (1343, .iconst 1, 1), (1344, .bipush 105, 2)] := dk_dX10_init_1324.2.2.2.2.2.2.2.2
theorem dX10_init_1335 : decode cX10_init 1335 = .ok (.newarray .char, 2) := dk_dX10_init_1324_8.1
theorem dX10_init_1337 : decode cX10_init 1337 = .ok (.dup, 1) := dk_dX10_init_1324_8.2.1
theorem dX10_init_1338 : decode cX10_init 1338 = .ok (.iconst 0, 1) := dk_dX10_init_1324_8.2.2.1
theorem dX10_init_1339 : decode cX10_init 1339 = .ok (.bipush 109, 2) := dk_dX10_init_1324_8.2.2.2.1
theorem dX10_init_1341 : decode cX10_init 1341 = .ok (.castore, 1) := dk_dX10_init_1324_8.2.2.2.2.1
theorem dX10_init_1342 : decode cX10_init 1342 = .ok (.dup, 1) := dk_dX10_init_1324_8.2.2.2.2.2.1
theorem dX10_init_1343 : decode cX10_init 1343 = .ok (.iconst 1, 1) := dk_dX10_init_1324_8.2.2.2.2.2.2.1
theorem dX10_init_1344 : decode cX10_init 1344 = .ok (.bipush 105, 2) := dk_dX10_init_1324_8.2.2.2.2.2.2.2.1
theorem dk_dX10_init_1346 : dz_C cX10_init [(1346, .castore, 1), (1347, .dup, 1), (1348, .iconst 2, 1), (1349, .bipush 110, 2), (1351, .castore, 1), (1352, .putfield 219, 3), (1355, .aload_n 0, 1), (1356, .iconst 3, 1), (1357, .newarray .char, 2), (1359, .dup, 1), (1360, .iconst 0, 1), (1361, .bipush 109, 2), (1363, .castore, 1), (1364, .dup, 1), (1365, .iconst 1, 1), (1366, .bipush 97, 2)] := dz_of (by decide +kernel)
theorem dX10_init_1346 : decode cX10_init 1346 = .ok (.castore, 1) := dk_dX10_init_1346.1
theorem dX10_init_1347 : decode cX10_init 1347 = .ok (.dup, 1) := dk_dX10_init_1346.2.1
theorem dX10_init_1348 : decode cX10_init 1348 = .ok (.iconst 2, 1) := dk_dX10_init_1346.2.2.1
theorem dX10_init_1349 : decode cX10_init 1349 = .ok (.bipush 110, 2) := dk_dX10_init_1346.2.2.2.1
theorem dX10_init_1351 : decode cX10_init 1351 = .ok (.castore, 1) := dk_dX10_init_1346.2.2.2.2.1
theorem dX10_init_1352 : decode cX10_init 1352 = .ok (.putfield 219, 3) := dk_dX10_init_1346.2.2.2.2.2.1
theorem dX10_init_1355 : decode cX10_init 1355 = .ok (.aload_n 0, 1) := dk_dX10_init_1346.2.2.2.2.2.2.1
theorem dX10_init_1356 : decode cX10_init 1356 = .ok (.iconst 3, 1) := dk_dX10_init_1346.2.2.2.2.2.2.2.1
theorem dk_dX10_init_1346_8 : dz_C cX10_init [(1357, .newarray .char, 2), (1359, .dup, 1), (1360, .iconst 0, 1), (1361, .bipush 109, 2), (1363, .castore, 1), (1364, .dup, 1), (1365, .iconst 1, 1), (1366, .bipush 97, 2)] := dk_dX10_init_1346.2.2.2.2.2.2.2.2
theorem dX10_init_1357 : decode cX10_init 1357 = .ok (.newarray .char, 2) := dk_dX10_init_1346_8.1
theorem dX10_init_1359 : decode cX10_init 1359 = .ok (.dup, 1) := dk_dX10_init_1346_8.2.1
theorem dX10_init_1360 : decode cX10_init 1360 = .ok (.iconst 0, 1) := dk_dX10_init_1346_8.2.2.1
theorem dX10_init_1361 : decode cX10_init 1361 = .ok (.bipush 109, 2) := dk_dX10_init_1346_8.2.2.2.1
theorem dX10_init_1363 : decode cX10_init 1363 = .ok (.castore, 1) := dk_dX10_init_1346_8.2.2.2.2.1
theorem dX10_init_1364 : decode cX10_init 1364 = .ok (.dup, 1) := dk_dX10_init_1346_8.2.2.2.2.2.1
theorem dX10_init_1365 : decode cX10_init 1365 = .ok (.iconst 1, 1) := dk_dX10_init_1346_8.2.2.2.2.2.2.1
theorem dX10_init_1366 : decode cX10_init 1366 = .ok (.bipush 97, 2) := dk_dX10_init_1346_8.2.2.2.2.2.2.2.1
theorem dk_dX10_init_1368 : dz_C cX10_init [(1368, .castore, 1), (1369, .dup, 1), (1370, .iconst 2, 1), (1371, .bipush 120, 2), (1373, .castore, 1), (1374, .putfield 222, 3), (1377, .aload_n 0, 1), (1378, .bipush 6, 2), (1380, .newarray .char, 2), (1382, .dup, 1), (1383, .iconst 0, 1), (1384, .bipush 115, 2), (1386, .castore, 1), (1387, .dup, 1), (1388, .iconst 1, 1), (1389, .bipush 101, 2)] := dz_of (by decide +kernel)
theorem dX10_init_1368 : decode cX10_init 1368 = .ok (.castore, 1) := dk_dX10_init_1368.1
theorem dX10_init_1369 : decode cX10_init 1369 = .ok (.dup, 1) := dk_dX10_init_1368.2.1
theorem dX10_init_1370 : decode cX10_init 1370 = .ok (.iconst 2, 1) := dk_dX10_init_1368.2.2.1
theorem dX10_init_1371 : decode cX10_init 1371 = .ok (.bipush 120, 2) := dk_dX10_init_1368.2.2.2.1
theorem dX10_init_1373 : decode cX10_init 1373 = .ok (.castore, 1) := dk_dX10_init_1368.2.2.2.2.1
theorem dX10_init_1374 : decode cX10_init 1374 = .ok (.putfield 222, 3) := dk_dX10_init_1368.2.2.2.2.2.1
theorem dX10_init_1377 : decode cX10_init 1377 = .ok (.aload_n 0, 1) := dk_dX10_init_1368.2.2.2.2.2.2.1
theorem dX10_init_1378 : decode cX10_init 1378 = .ok (.bipush 6, 2) := dk_dX10_init_1368.2.2.2.2.2.2.2.1
theorem dk_dX10_init_1368_8 : dz_C cX10_init [(1380, .newarray .char, 2), (1382, .dup, 1), (1383, .iconst 0, 1), (1384, .bipush 115, 2), (1386, .castore, 1), (1387, .dup, 1), (1388, .iconst 1, 1), (1389, .bipush 101, 2)] := dk_dX10_init_1368.2.2.2.2.2.2.2.2
theorem dX10_init_1380 : decode cX10_init 1380 = .ok (.newarray .char, 2) := dk_dX10_init_1368_8.1
theorem dX10_init_1382 : decode cX10_init 1382 = .ok (.dup, 1) := dk_dX10_init_1368_8.2.1
theorem dX10_init_1383 : decode cX10_init 1383 = .ok (.iconst 0, 1) := dk_dX10_init_1368_8.2.2.1
theorem dX10_init_1384 : decode cX10_init 1384 = .ok (.bipush 115, 2) := dk_dX10_init_1368_8.2.2.2.1
theorem dX10_init_1386 : decode cX10_init 1386 = .ok (.castore, 1) := dk_dX10_init_1368_8.2.2.2.2.1
theorem dX10_init_1387 : decode cX10_init 1387 = .ok (.dup, 1) := dk_dX10_init_1368_8.2.2.2.2.2.1
theorem dX10_init_1388 : decode cX10_init 1388 = .ok (.iconst 1, 1) := dk_dX10_init_1368_8.2.2.2.2.2.2.1
theorem dX10_init_1389 : decode cX10_init 1389 = .ok (.bipush 101, 2) := dk_dX10_init_1368_8.2.2.2.2.2.2.2.1
theorem dk_dX10_init_1391 : dz_C cX10_init [(1391, .castore, 1), (1392, .dup, 1), (1393, .iconst 2, 1), (1394, .bipush 99, 2), (1396, .castore, 1), (1397, .dup, 1), (1398, .iconst 3, 1), (1399, .bipush 111, 2), (1401, .castore, 1), (1402, .dup, 1), (1403, .iconst 4, 1), (1404, .bipush 110, 2), (1406, .castore, 1), (1407, .dup, 1), (1408, .iconst 5, 1), (1409, .bipush 100, 2)] := dz_of (by decide +kernel)
theorem dX10_init_1391 : decode cX10_init 1391 = .ok (.castore, 1) := dk_dX10_init_1391.1
theorem dX10_init_1392 : decode cX10_init 1392 = .ok (.dup, 1) := dk_dX10_init_1391.2.1
theorem dX10_init_1393 : decode cX10_init 1393 = .ok (.iconst 2, 1) := dk_dX10_init_1391.2.2.1
theorem dX10_init_1394 : decode cX10_init 1394 = .ok (.bipush 99, 2) := dk_dX10_init_1391.2.2.2.1
theorem dX10_init_1396 : decode cX10_init 1396 = .ok (.castore, 1) := dk_dX10_init_1391.2.2.2.2.1
theorem dX10_init_1397 : decode cX10_init 1397 = .ok (.dup, 1) := dk_dX10_init_1391.2.2.2.2.2.1
theorem dX10_init_1398 : decode cX10_init 1398 = .ok (.iconst 3, 1) := dk_dX10_init_1391.2.2.2.2.2.2.1
theorem dX10_init_1399 : decode cX10_init 1399 = .ok (.bipush 111, 2) := dk_dX10_init_1391.2.2.2.2.2.2.2.1
theorem dk_dX10_init_1391_8 : dz_C cX10_init [(1401, .castore, 1), (1402, .dup, 1), (1403, .iconst 4, 1), (1404, .bipush 110, 2), (1406, .castore, 1), (1407, .dup, 1), (1408, .iconst 5, 1), (1409, .bipush 100, 2)] := dk_dX10_init_1391.2.2.2.2.2.2.2.2
theorem dX10_init_1401 : decode cX10_init 1401 = .ok (.castore, 1) := dk_dX10_init_1391_8.1
theorem dX10_init_1402 : decode cX10_init 1402 = .ok (.dup, 1) := dk_dX10_init_1391_8.2.1
theorem dX10_init_1403 : decode cX10_init 1403 = .ok (.iconst 4, 1) := dk_dX10_init_1391_8.2.2.1
theorem dX10_init_1404 : decode cX10_init 1404 = .ok (.bipush 110, 2) := dk_dX10_init_1391_8.2.2.2.1
theorem dX10_init_1406 : decode cX10_init 1406 = .ok (.castore, 1) := dk_dX10_init_1391_8.2.2.2.2.1
theorem dX10_init_1407 : decode cX10_init 1407 = .ok (.dup, 1) := dk_dX10_init_1391_8.2.2.2.2.2.1
theorem dX10_init_1408 : decode cX10_init 1408 = .ok (.iconst 5, 1) := dk_dX10_init_1391_8.2.2.2.2.2.2.1
theorem dX10_init_1409 : decode cX10_init 1409 = .ok (.bipush 100, 2) := dk_dX10_init_1391_8.2.2.2.2.2.2.2.1
theorem dk_dX10_init_1411 : dz_C cX10_init [(1411, .castore, 1), (1412, .putfield 225, 3), (1415, .aload_n 0, 1), (1416, .iconst 3, 1), (1417, .newarray .char, 2), (1419, .dup, 1), (1420, .iconst 0, 1), (1421, .bipush 100, 2), (1423, .castore, 1), (1424, .dup, 1), (1425, .iconst 1, 1), (1426, .bipush 97, 2), (1428, .castore, 1), (1429, .dup, 1), (1430, .iconst 2, 1), (1431, .bipush 121, 2)] := dz_of (by decide +kernel)
theorem dX10_init_1411 : decode cX10_init 1411 = .ok (.castore, 1) := dk_dX10_init_1411.1
theorem dX10_init_1412 : decode cX10_init 1412 = .ok (.putfield 225, 3) := dk_dX10_init_1411.2.1
theorem dX10_init_1415 : decode cX10_init 1415 = .ok (.aload_n 0, 1) := dk_dX10_init_1411.2.2.1
theorem dX10_init_1416 : decode cX10_init 1416 = .ok (.iconst 3, 1) := dk_dX10_init_1411.2.2.2.1
theorem dX10_init_1417 : decode cX10_init 1417 = .ok (.newarray .char, 2) := dk_dX10_init_1411.2.2.2.2.1
theorem dX10_init_1419 : decode cX10_init 1419 = .ok (.dup, 1) := dk_dX10_init_1411.2.2.2.2.2.1
theorem dX10_init_1420 : decode cX10_init 1420 = .ok (.iconst 0, 1) := dk_dX10_init_1411.2.2.2.2.2.2.1
theorem dX10_init_1421 : decode cX10_init 1421 = .ok (.bipush 100, 2) := dk_dX10_init_1411.2.2.2.2.2.2.2.1
theorem dk_dX10_init_1411_8 : dz_C cX10_init [(1423, .castore, 1), (1424, .dup, 1), (1425, .iconst 1, 1), (1426, .bipush 97, 2), (1428, .castore, 1), (1429, .dup, 1), (1430, .iconst 2, 1), (1431, .bipush 121, 2)] := dk_dX10_init_1411.2.2.2.2.2.2.2.2
theorem dX10_init_1423 : decode cX10_init 1423 = .ok (.castore, 1) := dk_dX10_init_1411_8.1
theorem dX10_init_1424 : decode cX10_init 1424 = .ok (.dup, 1) := dk_dX10_init_1411_8.2.1
theorem dX10_init_1425 : decode cX10_init 1425 = .ok (.iconst 1, 1) := dk_dX10_init_1411_8.2.2.1
theorem dX10_init_1426 : decode cX10_init 1426 = .ok (.bipush 97, 2) := dk_dX10_init_1411_8.2.2.2.1
theorem dX10_init_1428 : decode cX10_init 1428 = .ok (.castore, 1) := dk_dX10_init_1411_8.2.2.2.2.1
theorem dX10_init_1429 : decode cX10_init 1429 = .ok (.dup, 1) := dk_dX10_init_1411_8.2.2.2.2.2.1
theorem dX10_init_1430 : decode cX10_init 1430 = .ok (.iconst 2, 1) := dk_dX10_init_1411_8.2.2.2.2.2.2.1
theorem dX10_init_1431 : decode cX10_init 1431 = .ok (.bipush 121, 2) := dk_dX10_init_1411_8.2.2.2.2.2.2.2.1
theorem dk_dX10_init_1433 : dz_C cX10_init [(1433, .castore, 1), (1434, .putfield 228, 3), (1437, .aload_n 0, 1), (1438, .iconst 5, 1), (1439, .newarray .char, 2), (1441, .dup, 1), (1442, .iconst 0, 1), (1443, .bipush 112, 2), (1445, .castore, 1), (1446, .dup, 1), (1447, .iconst 1, 1), (1448, .bipush 104, 2), (1450, .castore, 1), (1451, .dup, 1), (1452, .iconst 2, 1), (1453, .bipush 97, 2)] := dz_of (by decide +kernel)
theorem dX10_init_1433 : decode cX10_init 1433 = .ok (.castore, 1) := dk_dX10_init_1433.1
theorem dX10_init_1434 : decode cX10_init 1434 = .ok (.putfield 228, 3) := dk_dX10_init_1433.2.1
theorem dX10_init_1437 : decode cX10_init 1437 = .ok (.aload_n 0, 1) := dk_dX10_init_1433.2.2.1
theorem dX10_init_1438 : decode cX10_init 1438 = .ok (.iconst 5, 1) := dk_dX10_init_1433.2.2.2.1
theorem dX10_init_1439 : decode cX10_init 1439 = .ok (.newarray .char, 2) := dk_dX10_init_1433.2.2.2.2.1
theorem dX10_init_1441 : decode cX10_init 1441 = .ok (.dup, 1) := dk_dX10_init_1433.2.2.2.2.2.1
theorem dX10_init_1442 : decode cX10_init 1442 = .ok (.iconst 0, 1) := dk_dX10_init_1433.2.2.2.2.2.2.1
theorem dX10_init_1443 : decode cX10_init 1443 = .ok (.bipush 112, 2) := dk_dX10_init_1433.2.2.2.2.2.2.2.1
theorem dk_dX10_init_1433_8 : dz_C cX10_init [(1445, .castore, 1), (1446, .dup, 1), (1447, .iconst 1, 1), (1448, .bipush 104, 2), (1450, .castore, 1), (1451, .dup, 1), (1452, .iconst 2, 1), (1453, .bipush 97, 2)] := dk_dX10_init_1433.2.2.2.2.2.2.2.2
theorem dX10_init_1445 : decode cX10_init 1445 = .ok (.castore, 1) := dk_dX10_init_1433_8.1
theorem dX10_init_1446 : decode cX10_init 1446 = .ok (.dup, 1) := dk_dX10_init_1433_8.2.1
theorem dX10_init_1447 : decode cX10_init 1447 = .ok (.iconst 1, 1) := dk_dX10_init_1433_8.2.2.1
theorem dX10_init_1448 : decode cX10_init 1448 = .ok (.bipush 104, 2) := dk_dX10_init_1433_8.2.2.2.1
theorem dX10_init_1450 : decode cX10_init 1450 = .ok (.castore, 1) := dk_dX10_init_1433_8.2.2.2.2.1
theorem dX10_init_1451 : decode cX10_init 1451 = .ok (.dup, 1) := dk_dX10_init_1433_8.2.2.2.2.2.1
theorem dX10_init_1452 : decode cX10_init 1452 = .ok (.iconst 2, 1) := dk_dX10_init_1433_8.2.2.2.2.2.2.1
theorem dX10_init_1453 : decode cX10_init 1453 = .ok (.bipush 97, 2) := dk_dX10_init_1433_8.2.2.2.2.2.2.2.1
theorem dk_dX10_init_1455 : dz_C cX10_init [(1455, .castore, 1), (1456, .dup, 1), (1457, .iconst 3, 1), (1458, .bipush 115, 2), (1460, .castore, 1), (1461, .dup, 1), (1462, .iconst 4, 1), (1463, .bipush 101, 2), (1465, .castore, 1), (1466, .putfield 231, 3), (1469, .aload_n 0, 1), (1470, .bipush 6, 2), (1472, .newarray .char, 2), (1474, .dup, 1), (1475, .iconst 0, 1), (1476, .bipush 119, 2)] := dz_of (by decide +kernel)
theorem dX10_init_1455 : decode cX10_init 1455 = .ok (.castore, 1) := dk_dX10_init_1455.1
theorem dX10_init_1456 : decode cX10_init 1456 = .ok (.dup, 1) := dk_dX10_init_1455.2.1
theorem dX10_init_1457 : decode cX10_init 1457 = .ok (.iconst 3, 1) := dk_dX10_init_1455.2.2.1
theorem dX10_init_1458 : decode cX10_init 1458 = .ok (.bipush 115, 2) := dk_dX10_init_1455.2.2.2.1
theorem dX10_init_1460 : decode cX10_init 1460 = .ok (.castore, 1) := dk_dX10_init_1455.2.2.2.2.1
theorem dX10_init_1461 : decode cX10_init 1461 = .ok (.dup, 1) := dk_dX10_init_1455.2.2.2.2.2.1
theorem dX10_init_1462 : decode cX10_init 1462 = .ok (.iconst 4, 1) := dk_dX10_init_1455.2.2.2.2.2.2.1
theorem dX10_init_1463 : decode cX10_init 1463 = .ok (.bipush 101, 2) := dk_dX10_init_1455.2.2.2.2.2.2.2.1
theorem dk_dX10_init_1455_8 : dz_C cX10_init [(1465, .castore, 1), (1466, .putfield 231, 3), (1469, .aload_n 0, 1), (1470, .bipush 6, 2), (1472, .newarray .char, 2), (1474, .dup, 1), (1475, .iconst 0, 1), (1476, .bipush 119, 2)] := dk_dX10_init_1455.2.2.2.2.2.2.2.2
theorem dX10_init_1465 : decode cX10_init 1465 = .ok (.castore, 1) := dk_dX10_init_1455_8.1
theorem dX10_init_1466 : decode cX10_init 1466 = .ok (.putfield 231, 3) := dk_dX10_init_1455_8.2.1
theorem dX10_init_1469 : decode cX10_init 1469 = .ok (.aload_n 0, 1) := dk_dX10_init_1455_8.2.2.1
theorem dX10_init_1470 : decode cX10_init 1470 = .ok (.bipush 6, 2) := dk_dX10_init_1455_8.2.2.2.1
theorem dX10_init_1472 : decode cX10_init 1472 = .ok (.newarray .char, 2) := dk_dX10_init_1455_8.2.2.2.2.1
theorem dX10_init_1474 : decode cX10_init 1474 = .ok (.dup, 1) := dk_dX10_init_1455_8.2.2.2.2.2.1
theorem dX10_init_1475 : decode cX10_init 1475 = .ok (.iconst 0, 1) := dk_dX10_init_1455_8.2.2.2.2.2.2.1
theorem dX10_init_1476 : decode cX10_init 1476 = .ok (.bipush 119, 2) := dk_dX10_init_1455_8.2.2.2.2.2.2.2.1
theorem dk_dX10_init_1478 : dz_C cX10_init [(1478, .castore, 1), (1479, .dup, 1), (1480, .iconst 1, 1), (1481, .bipush 97, 2), (1483, .castore, 1), (1484, .dup, 1), (1485, .iconst 2, 1), (1486, .bipush 105, 2), (1488, .castore, 1), (1489, .dup, 1), (1490, .iconst 3, 1), (1491, .bipush 116, 2), (1493, .castore, 1), (1494, .dup, 1), (1495, .iconst 4, 1), (1496, .bipush 101, 2)] := dz_of (by decide +kernel)
theorem dX10_init_1478 : decode cX10_init 1478 = .ok (.castore, 1) := dk_dX10_init_1478.1
theorem dX10_init_1479 : decode cX10_init 1479 = .ok (.dup, 1) := dk_dX10_init_1478.2.1
theorem dX10_init_1480 : decode cX10_init 1480 = .ok (.iconst 1, 1) := dk_dX10_init_1478.2.2.1
theorem dX10_init_1481 : decode cX10_init 1481 = .ok (.bipush 97, 2) := dk_dX10_init_1478.2.2.2.1
theorem dX10_init_1483 : decode cX10_init 1483 = .ok (.castore, 1) := dk_dX10_init_1478.2.2.2.2.1
theorem dX10_init_1484 : decode cX10_init 1484 = .ok (.dup, 1) := dk_dX10_init_1478.2.2.2.2.2.1
theorem dX10_init_1485 : decode cX10_init 1485 = .ok (.iconst 2, 1) := dk_dX10_init_1478.2.2.2.2.2.2.1
theorem dX10_init_1486 : decode cX10_init 1486 = .ok (.bipush 105, 2) := dk_dX10_init_1478.2.2.2.2.2.2.2.1
theorem dk_dX10_init_1478_8 : dz_C cX10_init [(1488, .castore, 1), (1489, .dup, 1), (1490, .iconst 3, 1), (1491, .bipush 116, 2), (1493, .castore, 1), (1494, .dup, 1), (1495, .iconst 4, 1), (1496, .bipush 101, 2)] := dk_dX10_init_1478.2.2.2.2.2.2.2.2
theorem dX10_init_1488 : decode cX10_init 1488 = .ok (.castore, 1) := dk_dX10_init_1478_8.1
theorem dX10_init_1489 : decode cX10_init 1489 = .ok (.dup, 1) := dk_dX10_init_1478_8.2.1
theorem dX10_init_1490 : decode cX10_init 1490 = .ok (.iconst 3, 1) := dk_dX10_init_1478_8.2.2.1
theorem dX10_init_1491 : decode cX10_init 1491 = .ok (.bipush 116, 2) := dk_dX10_init_1478_8.2.2.2.1
theorem dX10_init_1493 : decode cX10_init 1493 = .ok (.castore, 1) := dk_dX10_init_1478_8.2.2.2.2.1
theorem dX10_init_1494 : decode cX10_init 1494 = .ok (.dup, 1) := dk_dX10_init_1478_8.2.2.2.2.2.1
theorem dX10_init_1495 : decode cX10_init 1495 = .ok (.iconst 4, 1) := dk_dX10_init_1478_8.2.2.2.2.2.2.1
theorem dX10_init_1496 : decode cX10_init 1496 = .ok (.bipush 101, 2) := dk_dX10_init_1478_8.2.2.2.2.2.2.2.1
theorem dk_dX10_init_1498 : dz_C cX10_init [(1498, .castore, 1), (1499, .dup, 1), (1500, .iconst 5, 1), (1501, .bipush 100, 2), (1503, .castore, 1), (1504, .putfield 234, 3), (1507, .aload_n 0, 1), (1508, .iconst 4, 1), (1509, .newarray .char, 2), (1511, .dup, 1), (1512, .iconst 0, 1), (1513, .bipush 99, 2), (1515, .castore, 1), (1516, .dup, 1), (1517, .iconst 1, 1), (1518, .bipush 97, 2)] := dz_of (by decide +kernel)
theorem dX10_init_1498 : decode cX10_init 1498 = .ok (.castore, 1) := dk_dX10_init_1498.1
theorem dX10_init_1499 : decode cX10_init 1499 = .ok (.dup, 1) := dk_dX10_init_1498.2.1
theorem dX10_init_1500 : decode cX10_init 1500 = .ok (.iconst 5, 1) := dk_dX10_init_1498.2.2.1
theorem dX10_init_1501 : decode cX10_init 1501 = .ok (.bipush 100, 2) := dk_dX10_init_1498.2.2.2.1
theorem dX10_init_1503 : decode cX10_init 1503 = .ok (.castore, 1) := dk_dX10_init_1498.2.2.2.2.1
theorem dX10_init_1504 : decode cX10_init 1504 = .ok (.putfield 234, 3) := dk_dX10_init_1498.2.2.2.2.2.1
theorem dX10_init_1507 : decode cX10_init 1507 = .ok (.aload_n 0, 1) := dk_dX10_init_1498.2.2.2.2.2.2.1
theorem dX10_init_1508 : decode cX10_init 1508 = .ok (.iconst 4, 1) := dk_dX10_init_1498.2.2.2.2.2.2.2.1
theorem dk_dX10_init_1498_8 : dz_C cX10_init [(1509, .newarray .char, 2), (1511, .dup, 1), (1512, .iconst 0, 1), (1513, .bipush 99, 2), (1515, .castore, 1), (1516, .dup, 1), (1517, .iconst 1, 1), (1518, .bipush 97, 2)] := dk_dX10_init_1498.2.2.2.2.2.2.2.2
theorem dX10_init_1509 : decode cX10_init 1509 = .ok (.newarray .char, 2) := dk_dX10_init_1498_8.1
theorem dX10_init_1511 : decode cX10_init 1511 = .ok (.dup, 1) := dk_dX10_init_1498_8.2.1
theorem dX10_init_1512 : decode cX10_init 1512 = .ok (.iconst 0, 1) := dk_dX10_init_1498_8.2.2.1
theorem dX10_init_1513 : decode cX10_init 1513 = .ok (.bipush 99, 2) := dk_dX10_init_1498_8.2.2.2.1
theorem dX10_init_1515 : decode cX10_init 1515 = .ok (.castore, 1) := dk_dX10_init_1498_8.2.2.2.2.1
theorem dX10_init_1516 : decode cX10_init 1516 = .ok (.dup, 1) := dk_dX10_init_1498_8.2.2.2.2.2.1
theorem dX10_init_1517 : decode cX10_init 1517 = .ok (.iconst 1, 1) := dk_dX10_init_1498_8.2.2.2.2.2.2.1
theorem dX10_init_1518 : decode cX10_init 1518 = .ok (.bipush 97, 2) := dk_dX10_init_1498_8.2.2.2.2.2.2.2.1
theorem dk_dX10_init_1520 : dz_C cX10_init [(1520, .castore, 1), (1521, .dup, 1), (1522, .iconst 2, 1), (1523, .bipush 108, 2), (1525, .castore, 1), (1526, .dup, 1), (1527, .iconst 3, 1), (1528, .bipush 109, 2), (1530, .castore, 1), (1531, .putfield 237, 3), (1534, .aload_n 0, 1), (1535, .iconst 4, 1), (1536, .newarray .char, 2), (1538, .dup, 1), (1539, .iconst 0, 1), (1540, .bipush 112, 2)] := dz_of (by decide +kernel)
theorem dX10_init_1520 : decode cX10_init 1520 = .ok (.castore, 1) := dk_dX10_init_1520.1
theorem dX10_init_1521 : decode cX10_init 1521 = .ok (.dup, 1) := dk_dX10_init_1520.2.1
theorem dX10_init_1522 : decode cX10_init 1522 = .ok (.iconst 2, 1) := dk_dX10_init_1520.2.2.1
theorem dX10_init_1523 : decode cX10_init 1523 = .ok (.bipush 108, 2) := dk_dX10_init_1520.2.2.2.1
theorem dX10_init_1525 : decode cX10_init 1525 = .ok (.castore, 1) := dk_dX10_init_1520.2.2.2.2.1
theorem dX10_init_1526 : decode cX10_init 1526 = .ok (.dup, 1) := dk_dX10_init_1520.2.2.2.2.2.1
theorem dX10_init_1527 : decode cX10_init 1527 = .ok (.iconst 3, 1) := dk_dX10_init_1520.2.2.2.2.2.2.1
theorem dX10_init_1528 : decode cX10_init 1528 = .ok (.bipush 109, 2) := dk_dX10_init_1520.2.2.2.2.2.2.2.1
theorem dk_dX10_init_1520_8 : dz_C cX10_init [(1530, .castore, 1), (1531, .putfield 237, 3), (1534, .aload_n 0, 1), (1535, .iconst 4, 1), (1536, .newarray .char, 2), (1538, .dup, 1), (1539, .iconst 0, 1), (1540, .bipush 112, 2)] := dk_dX10_init_1520.2.2.2.2.2.2.2.2
theorem dX10_init_1530 : decode cX10_init 1530 = .ok (.castore, 1) := dk_dX10_init_1520_8.1
theorem dX10_init_1531 : decode cX10_init 1531 = .ok (.putfield 237, 3) := dk_dX10_init_1520_8.2.1
theorem dX10_init_1534 : decode cX10_init 1534 = .ok (.aload_n 0, 1) := dk_dX10_init_1520_8.2.2.1
theorem dX10_init_1535 : decode cX10_init 1535 = .ok (.iconst 4, 1) := dk_dX10_init_1520_8.2.2.2.1
theorem dX10_init_1536 : decode cX10_init 1536 = .ok (.newarray .char, 2) := dk_dX10_init_1520_8.2.2.2.2.1
theorem dX10_init_1538 : decode cX10_init 1538 = .ok (.dup, 1) := dk_dX10_init_1520_8.2.2.2.2.2.1
theorem dX10_init_1539 : decode cX10_init 1539 = .ok (.iconst 0, 1) := dk_dX10_init_1520_8.2.2.2.2.2.2.1
theorem dX10_init_1540 : decode cX10_init 1540 = .ok (.bipush 112, 2) := dk_dX10_init_1520_8.2.2.2.2.2.2.2.1
theorem dk_dX10_init_1542 : dz_C cX10_init [(1542, .castore, 1), (1543, .dup, 1), (1544, .iconst 1, 1), (1545, .bipush 97, 2), (1547, .castore, 1), (1548, .dup, 1), (1549, .iconst 2, 1), (1550, .bipush 99, 2), (1552, .castore, 1), (1553, .dup, 1), (1554, .iconst 3, 1), (1555, .bipush 101, 2), (1557, .castore, 1), (1558, .putfield 240, 3), (1561, .aload_n 0, 1), (1562, .bipush 6, 2)] := dz_of (by decide +kernel)
theorem dX10_init_1542 : decode cX10_init 1542 = .ok (.castore, 1) := dk_dX10_init_1542.1
theorem dX10_init_1543 : decode cX10_init 1543 = .ok (.dup, 1) := dk_dX10_init_1542.2.1
theorem dX10_init_1544 : decode cX10_init 1544 = .ok (.iconst 1, 1) := dk_dX10_init_1542.2.2.1
theorem dX10_init_1545 : decode cX10_init 1545 = .ok (.bipush 97, 2) := dk_dX10_init_1542.2.2.2.1
theorem dX10_init_1547 : decode cX10_init 1547 = .ok (.castore, 1) := dk_dX10_init_1542.2.2.2.2.1
theorem dX10_init_1548 : decode cX10_init 1548 = .ok (.dup, 1) := dk_dX10_init_1542.2.2.2.2.2.1
theorem dX10_init_1549 : decode cX10_init 1549 = .ok (.iconst 2, 1) := dk_dX10_init_1542.2.2.2.2.2.2.1
theorem dX10_init_1550 : decode cX10_init 1550 = .ok (.bipush 99, 2) := dk_dX10_init_1542.2.2.2.2.2.2.2.1
theorem dk_dX10_init_1542_8 : dz_C cX10_init [(1552, .castore, 1), (1553, .dup, 1), (1554, .iconst 3, 1), (1555, .bipush 101, 2), (1557, .castore, 1), (1558, .putfield 240, 3), (1561, .aload_n 0, 1), (1562, .bipush 6, 2)] := dk_dX10_init_1542.2.2.2.2.2.2.2.2
theorem dX10_init_1552 : decode cX10_init 1552 = .ok (.castore, 1) := dk_dX10_init_1542_8.1
theorem dX10_init_1553 : decode cX10_init 1553 = .ok (.dup, 1) := dk_dX10_init_1542_8.2.1
theorem dX10_init_1554 : decode cX10_init 1554 = .ok (.iconst 3, 1) := dk_dX10_init_1542_8.2.2.1
theorem dX10_init_1555 : decode cX10_init 1555 = .ok (.bipush 101, 2) := dk_dX10_init_1542_8.2.2.2.1
theorem dX10_init_1557 : decode cX10_init 1557 = .ok (.castore, 1) := dk_dX10_init_1542_8.2.2.2.2.1
theorem dX10_init_1558 : decode cX10_init 1558 = .ok (.putfield 240, 3) := dk_dX10_init_1542_8.2.2.2.2.2.1
theorem dX10_init_1561 : decode cX10_init 1561 = .ok (.aload_n 0, 1) := dk_dX10_init_1542_8.2.2.2.2.2.2.1
theorem dX10_init_1562 : decode cX10_init 1562 = .ok (.bipush 6, 2) := dk_dX10_init_1542_8.2.2.2.2.2.2.2.1
theorem dk_dX10_init_1564 : dz_C cX10_init [(1564, .newarray .char, 2), (1566, .dup, 1), (1567, .iconst 0, 1), (1568, .bipush 116, 2), (1570, .castore, 1), (1571, .dup, 1), (1572, .iconst 1, 1), (1573, .bipush 114, 2), (1575, .castore, 1), (1576, .dup, 1), (1577, .iconst 2, 1), (1578, .bipush 117, 2), (1580, .castore, 1), (1581, .dup, 1), (1582, .iconst 3, 1), (1583, .bipush 115, 2)] := dz_of (by decide +kernel)
theorem dX10_init_1564 : decode cX10_init 1564 = .ok (.newarray .char, 2) := dk_dX10_init_1564.1
theorem dX10_init_1566 : decode cX10_init 1566 = .ok (.dup, 1) := dk_dX10_init_1564.2.1
theorem dX10_init_1567 : decode cX10_init 1567 = .ok (.iconst 0, 1) := dk_dX10_init_1564.2.2.1
theorem dX10_init_1568 : decode cX10_init 1568 = .ok (.bipush 116, 2) := dk_dX10_init_1564.2.2.2.1
theorem dX10_init_1570 : decode cX10_init 1570 = .ok (.castore, 1) := dk_dX10_init_1564.2.2.2.2.1
theorem dX10_init_1571 : decode cX10_init 1571 = .ok (.dup, 1) := dk_dX10_init_1564.2.2.2.2.2.1
theorem dX10_init_1572 : decode cX10_init 1572 = .ok (.iconst 1, 1) := dk_dX10_init_1564.2.2.2.2.2.2.1
theorem dX10_init_1573 : decode cX10_init 1573 = .ok (.bipush 114, 2) := dk_dX10_init_1564.2.2.2.2.2.2.2.1
theorem dk_dX10_init_1564_8 : dz_C cX10_init [(1575, .castore, 1), (1576, .dup, 1), (1577, .iconst 2, 1), (1578, .bipush 117, 2), (1580, .castore, 1), (1581, .dup, 1), (1582, .iconst 3, 1), (1583, .bipush 115, 2)] := dk_dX10_init_1564.2.2.2.2.2.2.2.2
theorem dX10_init_1575 : decode cX10_init 1575 = .ok (.castore, 1) := dk_dX10_init_1564_8.1
theorem dX10_init_1576 : decode cX10_init 1576 = .ok (.dup, 1) := dk_dX10_init_1564_8.2.1
theorem dX10_init_1577 : decode cX10_init 1577 = .ok (.iconst 2, 1) := dk_dX10_init_1564_8.2.2.1
theorem dX10_init_1578 : decode cX10_init 1578 = .ok (.bipush 117, 2) := dk_dX10_init_1564_8.2.2.2.1
theorem dX10_init_1580 : decode cX10_init 1580 = .ok (.castore, 1) := dk_dX10_init_1564_8.2.2.2.2.1
theorem dX10_init_1581 : decode cX10_init 1581 = .ok (.dup, 1) := dk_dX10_init_1564_8.2.2.2.2.2.1
theorem dX10_init_1582 : decode cX10_init 1582 = .ok (.iconst 3, 1) := dk_dX10_init_1564_8.2.2.2.2.2.2.1
theorem dX10_init_1583 : decode cX10_init 1583 = .ok (.bipush 115, 2) := dk_dX10_init_1564_8.2.2.2.2.2.2.2.1
theorem dk_dX10_init_1585 : dz_C cX10_init [(1585, .castore, 1), (1586, .dup, 1), (1587, .iconst 4, 1), (1588, .bipush 116, 2), (1590, .castore, 1), (1591, .dup, 1), (1592, .iconst 5, 1), (1593, .bipush 115, 2), (1595, .castore, 1), (1596, .putfield 243, 3), (1599, .aload_n 0, 1), (1600, .iconst 3, 1), (1601, .newarray .char, 2), (1603, .dup, 1), (1604, .iconst 0, 1), (1605, .bipush 103, 2)] := dz_of (by decide +kernel)
theorem dX10_init_1585 : decode cX10_init 1585 = .ok (.castore, 1) := dk_dX10_init_1585.1
theorem dX10_init_1586 : decode cX10_init 1586 = .ok (.dup, 1) := dk_dX10_init_1585.2.1
theorem dX10_init_1587 : decode cX10_init 1587 = .ok (.iconst 4, 1) := dk_dX10_init_1585.2.2.1
theorem dX10_init_1588 : decode cX10_init 1588 = .ok (.bipush 116, 2) := dk_dX10_init_1585.2.2.2.1
theorem dX10_init_1590 : decode cX10_init 1590 = .ok (.castore, 1) := dk_dX10_init_1585.2.2.2.2.1
theorem dX10_init_1591 : decode cX10_init 1591 = .ok (.dup, 1) := dk_dX10_init_1585.2.2.2.2.2.1
theorem dX10_init_1592 : decode cX10_init 1592 = .ok (.iconst 5, 1) := dk_dX10_init_1585.2.2.2.2.2.2.1
theorem dX10_init_1593 : decode cX10_init 1593 = .ok (.bipush 115, 2) := dk_dX10_init_1585.2.2.2.2.2.2.2.1
theorem dk_dX10_init_1585_8 : dz_C cX10_init [(1595, .castore, 1), (1596, .putfield 243, 3), (1599, .aload_n 0, 1), (1600, .iconst 3, 1), (1601, .newarray .char, 2), (1603, .dup, 1), (1604, .iconst 0, 1), (1605, .bipush 103, 2)] := dk_dX10_init_1585.2.2.2.2.2.2.2.2
theorem dX10_init_1595 : decode cX10_init 1595 = .ok (.castore, 1) := dk_dX10_init_1585_8.1
theorem dX10_init_1596 : decode cX10_init 1596 = .ok (.putfield 243, 3) := dk_dX10_init_1585_8.2.1
theorem dX10_init_1599 : decode cX10_init 1599 = .ok (.aload_n 0, 1) := dk_dX10_init_1585_8.2.2.1
theorem dX10_init_1600 : decode cX10_init 1600 = .ok (.iconst 3, 1) := dk_dX10_init_1585_8.2.2.2.1
theorem dX10_init_1601 : decode cX10_init 1601 = .ok (.newarray .char, 2) := dk_dX10_init_1585_8.2.2.2.2.1
theorem dX10_init_1603 : decode cX10_init 1603 = .ok (.dup, 1) := dk_dX10_init_1585_8.2.2.2.2.2.1
theorem dX10_init_1604 : decode cX10_init 1604 = .ok (.iconst 0, 1) := dk_dX10_init_1585_8.2.2.2.2.2.2.1
theorem dX10_init_1605 : decode cX10_init 1605 = .ok (.bipush 103, 2) := dk_dX10_init_1585_8.2.2.2.2.2.2.2.1
theorem dk_dX10_init_1607 : dz_C cX10_init [(1607, .castore, 1), (1608, .dup, 1), (1609, .iconst 1, 1), (1610, .bipush 97, 2), (1612, .castore, 1), (1613, .dup, 1), (1614, .iconst 2, 1), (1615, .bipush 112, 2), (1617, .castore, 1), (1618, .putfield 246, 3), (1621, .aload_n 0, 1), (1622, .iconst 4, 1), (1623, .newarray .char, 2), (1625, .dup, 1), (1626, .iconst 0, 1), (1627, .bipush 114, 2)] := dz_of (by decide +kernel)
theorem dX10_init_1607 : decode cX10_init 1607 = .ok (.castore, 1) := dk_dX10_init_1607.1
theorem dX10_init_1608 : decode cX10_init 1608 = .ok (.dup, 1) := dk_dX10_init_1607.2.1
theorem dX10_init_1609 : decode cX10_init 1609 = .ok (.iconst 1, 1) := dk_dX10_init_1607.2.2.1
theorem dX10_init_1610 : decode cX10_init 1610 = .ok (.bipush 97, 2) := dk_dX10_init_1607.2.2.2.1
theorem dX10_init_1612 : decode cX10_init 1612 = .ok (.castore, 1) := dk_dX10_init_1607.2.2.2.2.1
theorem dX10_init_1613 : decode cX10_init 1613 = .ok (.dup, 1) := dk_dX10_init_1607.2.2.2.2.2.1
theorem dX10_init_1614 : decode cX10_init 1614 = .ok (.iconst 2, 1) := dk_dX10_init_1607.2.2.2.2.2.2.1
theorem dX10_init_1615 : decode cX10_init 1615 = .ok (.bipush 112, 2) := dk_dX10_init_1607.2.2.2.2.2.2.2.1
theorem dk_dX10_init_1607_8 : dz_C cX10_init [(1617, .castore, 1), (1618, .putfield 246, 3), (1621, .aload_n 0, 1), (1622, .iconst 4, 1), (1623, .newarray .char, 2), (1625, .dup, 1), (1626, .iconst 0, 1), (1627, .bipush 114, 2)] := dk_dX10_init_1607.2.2.2.2.2.2.2.2
theorem dX10_init_1617 : decode cX10_init 1617 = .ok (.castore, 1) := dk_dX10_init_1607_8.1
theorem dX10_init_1618 : decode cX10_init 1618 = .ok (.putfield 246, 3) := dk_dX10_init_1607_8.2.1
theorem dX10_init_1621 : decode cX10_init 1621 = .ok (.aload_n 0, 1) := dk_dX10_init_1607_8.2.2.1
theorem dX10_init_1622 : decode cX10_init 1622 = .ok (.iconst 4, 1) := dk_dX10_init_1607_8.2.2.2.1
theorem dX10_init_1623 : decode cX10_init 1623 = .ok (.newarray .char, 2) := dk_dX10_init_1607_8.2.2.2.2.1
theorem dX10_init_1625 : decode cX10_init 1625 = .ok (.dup, 1) := dk_dX10_init_1607_8.2.2.2.2.2.1
theorem dX10_init_1626 : decode cX10_init 1626 = .ok (.iconst 0, 1) := dk_dX10_init_1607_8.2.2.2.2.2.2.1
theorem dX10_init_1627 : decode cX10_init 1627 = .ok (.bipush 114, 2) := dk_dX10_init_1607_8.2.2.2.2.2.2.2.1
theorem dk_dX10_init_1629 : dz_C cX10_init [(1629, .castore, 1), (1630, .dup, 1), (1631, .iconst 1, 1), (1632, .bipush 101, 2), (1634, .castore, 1), (1635, .dup, 1), (1636, .iconst 2, 1), (1637, .bipush 100, 2), (1639, .castore, 1), (1640, .dup, 1), (1641, .iconst 3, 1), (1642, .bipush 115, 2), (1644, .castore, 1), (1645, .putfield 249, 3), (1648, .aload_n 0, 1), (1649, .bipush 6, 2)] := dz_of (by decide +kernel)
theorem dX10_init_1629 : decode cX10_init 1629 = .ok (.castore, 1) := dk_dX10_init_1629.1
theorem dX10_init_1630 : decode cX10_init 1630 = .ok (.dup, 1) := dk_dX10_init_1629.2.1
theorem dX10_init_1631 : decode cX10_init 1631 = .ok (.iconst 1, 1) := dk_dX10_init_1629.2.2.1
theorem dX10_init_1632 : decode cX10_init 1632 = .ok (.bipush 101, 2) := dk_dX10_init_1629.2.2.2.1
theorem dX10_init_1634 : decode cX10_init 1634 = .ok (.castore, 1) := dk_dX10_init_1629.2.2.2.2.1
theorem dX10_init_1635 : decode cX10_init 1635 = .ok (.dup, 1) := dk_dX10_init_1629.2.2.2.2.2.1
theorem dX10_init_1636 : decode cX10_init 1636 = .ok (.iconst 2, 1) := dk_dX10_init_1629.2.2.2.2.2.2.1
theorem dX10_init_1637 : decode cX10_init 1637 = .ok (.bipush 100, 2) := dk_dX10_init_1629.2.2.2.2.2.2.2.1
theorem dk_dX10_init_1629_8 : dz_C cX10_init [(1639, .castore, 1), (1640, .dup, 1), (1641, .iconst 3, 1), (1642, .bipush 115, 2), (1644, .castore, 1), (1645, .putfield 249, 3), (1648, .aload_n 0, 1), (1649, .bipush 6, 2)] := dk_dX10_init_1629.2.2.2.2.2.2.2.2
theorem dX10_init_1639 : decode cX10_init 1639 = .ok (.castore, 1) := dk_dX10_init_1629_8.1
theorem dX10_init_1640 : decode cX10_init 1640 = .ok (.dup, 1) := dk_dX10_init_1629_8.2.1
theorem dX10_init_1641 : decode cX10_init 1641 = .ok (.iconst 3, 1) := dk_dX10_init_1629_8.2.2.1
theorem dX10_init_1642 : decode cX10_init 1642 = .ok (.bipush 115, 2) := dk_dX10_init_1629_8.2.2.2.1
theorem dX10_init_1644 : decode cX10_init 1644 = .ok (.castore, 1) := dk_dX10_init_1629_8.2.2.2.2.1
theorem dX10_init_1645 : decode cX10_init 1645 = .ok (.putfield 249, 3) := dk_dX10_init_1629_8.2.2.2.2.2.1
theorem dX10_init_1648 : decode cX10_init 1648 = .ok (.aload_n 0, 1) := dk_dX10_init_1629_8.2.2.2.2.2.2.1
theorem dX10_init_1649 : decode cX10_init 1649 = .ok (.bipush 6, 2) := dk_dX10_init_1629_8.2.2.2.2.2.2.2.1
theorem dk_dX10_init_1651 : dz_C cX10_init [(1651, .newarray .char, 2), (1653, .dup, 1), (1654, .iconst 0, 1), (1655, .bipush 110, 2), (1657, .castore, 1), (1658, .dup, 1), (1659, .iconst 1, 1), (1660, .bipush 117, 2), (1662, .castore, 1), (1663, .dup, 1), (1664, .iconst 2, 1), (1665, .bipush 109, 2), (1667, .castore, 1), (1668, .dup, 1), (1669, .iconst 3, 1), (1670, .bipush 98, 2)] := dz_of (by decide +kernel)
theorem dX10_init_1651 : decode cX10_init 1651 = .ok (.newarray .char, 2) := dk_dX10_init_1651.1
theorem dX10_init_1653 : decode cX10_init 1653 = .ok (.dup, 1) := dk_dX10_init_1651.2.1
theorem dX10_init_1654 : decode cX10_init 1654 = .ok (.iconst 0, 1) := dk_dX10_init_1651.2.2.1
theorem dX10_init_1655 : decode cX10_init 1655 = .ok (.bipush 110, 2) := dk_dX10_init_1651.2.2.2.1
theorem dX10_init_1657 : decode cX10_init 1657 = .ok (.castore, 1) := dk_dX10_init_1651.2.2.2.2.1
theorem dX10_init_1658 : decode cX10_init 1658 = .ok (.dup, 1) := dk_dX10_init_1651.2.2.2.2.2.1
theorem dX10_init_1659 : decode cX10_init 1659 = .ok (.iconst 1, 1) := dk_dX10_init_1651.2.2.2.2.2.2.1
theorem dX10_init_1660 : decode cX10_init 1660 = .ok (.bipush 117, 2) := dk_dX10_init_1651.2.2.2.2.2.2.2.1
theorem dk_dX10_init_1651_8 : dz_C cX10_init [(1662, .castore, 1), (1663, .dup, 1), (1664, .iconst 2, 1), (1665, .bipush 109, 2), (1667, .castore, 1), (1668, .dup, 1), (1669, .iconst 3, 1), (1670, .bipush 98, 2)] := dk_dX10_init_1651.2.2.2.2.2.2.2.2
theorem dX10_init_1662 : decode cX10_init 1662 = .ok (.castore, 1) := dk_dX10_init_1651_8.1
theorem dX10_init_1663 : decode cX10_init 1663 = .ok (.dup, 1) := dk_dX10_init_1651_8.2.1
theorem dX10_init_1664 : decode cX10_init 1664 = .ok (.iconst 2, 1) := dk_dX10_init_1651_8.2.2.1
theorem dX10_init_1665 : decode cX10_init 1665 = .ok (.bipush 109, 2) := dk_dX10_init_1651_8.2.2.2.1
theorem dX10_init_1667 : decode cX10_init 1667 = .ok (.castore, 1) := dk_dX10_init_1651_8.2.2.2.2.1
theorem dX10_init_1668 : decode cX10_init 1668 = .ok (.dup, 1) := dk_dX10_init_1651_8.2.2.2.2.2.1
theorem dX10_init_1669 : decode cX10_init 1669 = .ok (.iconst 3, 1) := dk_dX10_init_1651_8.2.2.2.2.2.2.1
theorem dX10_init_1670 : decode cX10_init 1670 = .ok (.bipush 98, 2) := dk_dX10_init_1651_8.2.2.2.2.2.2.2.1
theorem dk_dX10_init_1672 : dz_C cX10_init [(1672, .castore, 1), (1673, .dup, 1), (1674, .iconst 4, 1), (1675, .bipush 101, 2), (1677, .castore, 1), (1678, .dup, 1), (1679, .iconst 5, 1), (1680, .bipush 114, 2), (1682, .castore, 1), (1683, .putfield 252, 3), (1686, .aload_n 0, 1), (1687, .iconst 4, 1), (1688, .newarray .char, 2), (1690, .dup, 1), (1691, .iconst 0, 1), (1692, .bipush 119, 2)] := dz_of (by decide +kernel)
theorem dX10_init_1672 : decode cX10_init 1672 = .ok (.castore, 1) := dk_dX10_init_1672.1
theorem dX10_init_1673 : decode cX10_init 1673 = .ok (.dup, 1) := dk_dX10_init_1672.2.1
theorem dX10_init_1674 : decode cX10_init 1674 = .ok (.iconst 4, 1) := dk_dX10_init_1672.2.2.1
theorem dX10_init_1675 : decode cX10_init 1675 = .ok (.bipush 101, 2) := dk_dX10_init_1672.2.2.2.1
theorem dX10_init_1677 : decode cX10_init 1677 = .ok (.castore, 1) := dk_dX10_init_1672.2.2.2.2.1
theorem dX10_init_1678 : decode cX10_init 1678 = .ok (.dup, 1) := dk_dX10_init_1672.2.2.2.2.2.1
theorem dX10_init_1679 : decode cX10_init 1679 = .ok (.iconst 5, 1) := dk_dX10_init_1672.2.2.2.2.2.2.1
theorem dX10_init_1680 : decode cX10_init 1680 = .ok (.bipush 114, 2) := dk_dX10_init_1672.2.2.2.2.2.2.2.1
theorem dk_dX10_init_1672_8 : dz_C cX10_init [(1682, .castore, 1), (1683, .putfield 252, 3), (1686, .aload_n 0, 1), (1687, .iconst 4, 1), (1688, .newarray .char, 2), (1690, .dup, 1), (1691, .iconst 0, 1), (1692, .bipush 119, 2)] := dk_dX10_init_1672.2.2.2.2.2.2.2.2
theorem dX10_init_1682 : decode cX10_init 1682 = .ok (.castore, 1) := dk_dX10_init_1672_8.1
theorem dX10_init_1683 : decode cX10_init 1683 = .ok (.putfield 252, 3) := dk_dX10_init_1672_8.2.1
theorem dX10_init_1686 : decode cX10_init 1686 = .ok (.aload_n 0, 1) := dk_dX10_init_1672_8.2.2.1
theorem dX10_init_1687 : decode cX10_init 1687 = .ok (.iconst 4, 1) := dk_dX10_init_1672_8.2.2.2.1
theorem dX10_init_1688 : decode cX10_init 1688 = .ok (.newarray .char, 2) := dk_dX10_init_1672_8.2.2.2.2.1
theorem dX10_init_1690 : decode cX10_init 1690 = .ok (.dup, 1) := dk_dX10_init_1672_8.2.2.2.2.2.1
theorem dX10_init_1691 : decode cX10_init 1691 = .ok (.iconst 0, 1) := dk_dX10_init_1672_8.2.2.2.2.2.2.1
theorem dX10_init_1692 : decode cX10_init 1692 = .ok (.bipush 119, 2) := dk_dX10_init_1672_8.2.2.2.2.2.2.2.1
theorem dk_dX10_init_1694 : dz_C cX10_init [(1694, .castore, 1), (1695, .dup, 1), (1696, .iconst 1, 1), (1697, .bipush 101, 2), (1699, .castore, 1), (1700, .dup, 1), (1701, .iconst 2, 1), (1702, .bipush 110, 2), (1704, .castore, 1), (1705, .dup, 1), (1706, .iconst 3, 1), (1707, .bipush 116, 2), (1709, .castore, 1), (1710, .putfield 255, 3), (1713, .aload_n 0, 1), (1714, .iconst 4, 1)] := dz_of (by decide +kernel)
theorem dX10_init_1694 : decode cX10_init 1694 = .ok (.castore, 1) := dk_dX10_init_1694.1
theorem dX10_init_1695 : decode cX10_init 1695 = .ok (.dup, 1) := dk_dX10_init_1694.2.1
theorem dX10_init_1696 : decode cX10_init 1696 = .ok (.iconst 1, 1) := dk_dX10_init_1694.2.2.1
theorem dX10_init_1697 : decode cX10_init 1697 = .ok (.bipush 101, 2) := dk_dX10_init_1694.2.2.2.1
theorem dX10_init_1699 : decode cX10_init 1699 = .ok (.castore, 1) := dk_dX10_init_1694.2.2.2.2.1
theorem dX10_init_1700 : decode cX10_init 1700 = .ok (.dup, 1) := dk_dX10_init_1694.2.2.2.2.2.1
theorem dX10_init_1701 : decode cX10_init 1701 = .ok (.iconst 2, 1) := dk_dX10_init_1694.2.2.2.2.2.2.1
theorem dX10_init_1702 : decode cX10_init 1702 = .ok (.bipush 110, 2) := dk_dX10_init_1694.2.2.2.2.2.2.2.1
theorem dk_dX10_init_1694_8 : dz_C cX10_init [(1704, .castore, 1), (1705, .dup, 1), (1706, .iconst 3, 1), (1707, .bipush 116, 2), (1709, .castore, 1), (1710, .putfield 255, 3), (1713, .aload_n 0, 1), (1714, .iconst 4, 1)] := dk_dX10_init_1694.2.2.2.2.2.2.2.2
theorem dX10_init_1704 : decode cX10_init 1704 = .ok (.castore, 1) := dk_dX10_init_1694_8.1
theorem dX10_init_1705 : decode cX10_init 1705 = .ok (.dup, 1) := dk_dX10_init_1694_8.2.1
theorem dX10_init_1706 : decode cX10_init 1706 = .ok (.iconst 3, 1) := dk_dX10_init_1694_8.2.2.1
theorem dX10_init_1707 : decode cX10_init 1707 = .ok (.bipush 116, 2) := dk_dX10_init_1694_8.2.2.2.1
theorem dX10_init_1709 : decode cX10_init 1709 = .ok (.castore, 1) := dk_dX10_init_1694_8.2.2.2.2.1
theorem dX10_init_1710 : decode cX10_init 1710 = .ok (.putfield 255, 3) := dk_dX10_init_1694_8.2.2.2.2.2.1
theorem dX10_init_1713 : decode cX10_init 1713 = .ok (.aload_n 0, 1) := dk_dX10_init_1694_8.2.2.2.2.2.2.1
theorem dX10_init_1714 : decode cX10_init 1714 = .ok (.iconst 4, 1) := dk_dX10_init_1694_8.2.2.2.2.2.2.2.1
theorem dk_dX10_init_1715 : dz_C cX10_init [(1715, .newarray .char, 2), (1717, .dup, 1), (1718, .iconst 0, 1), (1719, .bipush 104, 2), (1721, .castore, 1), (1722, .dup, 1), (1723, .iconst 1, 1), (1724, .bipush 97, 2), (1726, .castore, 1), (1727, .dup, 1), (1728, .iconst 2, 1), (1729, .bipush 114, 2), (1731, .castore, 1), (1732, .dup, 1), (1733, .iconst 3, 1), (1734, .bipush 109, 2)] := dz_of (by decide +kernel)
theorem dX10_init_1715 : decode cX10_init 1715 = .ok (.newarray .char, 2) := dk_dX10_init_1715.1
theorem dX10_init_1717 : decode cX10_init 1717 = .ok (.dup, 1) := dk_dX10_init_1715.2.1
theorem dX10_init_1718 : decode cX10_init 1718 = .ok (.iconst 0, 1) := dk_dX10_init_1715.2.2.1
theorem dX10_init_1719 : decode cX10_init 1719 = .ok (.bipush 104, 2) := dk_dX10_init_1715.2.2.2.1
theorem dX10_init_1721 : decode cX10_init 1721 = .ok (.castore, 1) := dk_dX10_init_1715.2.2.2.2.1
theorem dX10_init_1722 : decode cX10_init 1722 = .ok (.dup, 1) := dk_dX10_init_1715.2.2.2.2.2.1
theorem dX10_init_1723 : decode cX10_init 1723 = .ok (.iconst 1, 1) := dk_dX10_init_1715.2.2.2.2.2.2.1
theorem dX10_init_1724 : decode cX10_init 1724 = .ok (.bipush 97, 2) := dk_dX10_init_1715.2.2.2.2.2.2.2.1
theorem dk_dX10_init_1715_8 : dz_C cX10_init [(1726, .castore, 1), (1727, .dup, 1), (1728, .iconst 2, 1), (1729, .bipush 114, 2), (1731, .castore, 1), (1732, .dup, 1), (1733, .iconst 3, 1), (1734, .bipush 109, 2)] := dk_dX10_init_1715.2.2.2.2.2.2.2.2
theorem dX10_init_1726 : decode cX10_init 1726 = .ok (.castore, 1) := dk_dX10_init_1715_8.1
theorem dX10_init_1727 : decode cX10_init 1727 = .ok (.dup, 1) := dk_dX10_init_1715_8.2.1
theorem dX10_init_1728 : decode cX10_init 1728 = .ok (.iconst 2, 1) := dk_dX10_init_1715_8.2.2.1
theorem dX10_init_1729 : decode cX10_init 1729 = .ok (.bipush 114, 2) := dk_dX10_init_1715_8.2.2.2.1
theorem dX10_init_1731 : decode cX10_init 1731 = .ok (.castore, 1) := dk_dX10_init_1715_8.2.2.2.2.1
theorem dX10_init_1732 : decode cX10_init 1732 = .ok (.dup, 1) := dk_dX10_init_1715_8.2.2.2.2.2.1
theorem dX10_init_1733 : decode cX10_init 1733 = .ok (.iconst 3, 1) := dk_dX10_init_1715_8.2.2.2.2.2.2.1
theorem dX10_init_1734 : decode cX10_init 1734 = .ok (.bipush 109, 2) := dk_dX10_init_1715_8.2.2.2.2.2.2.2.1
theorem dk_dX10_init_1736 : dz_C cX10_init [(1736, .castore, 1), (1737, .putfield 258, 3), (1740, .aload_n 0, 1), (1741, .iconst 4, 1), (1742, .newarray .char, 2), (1744, .dup, 1), (1745, .iconst 0, 1), (1746, .bipush 107, 2), (1748, .castore, 1), (1749, .dup, 1), (1750, .iconst 1, 1), (1751, .bipush 105, 2), (1753, .castore, 1), (1754, .dup, 1), (1755, .iconst 2, 1), (1756, .bipush 110, 2)] := dz_of (by decide +kernel)
theorem dX10_init_1736 : decode cX10_init 1736 = .ok (.castore, 1) := dk_dX10_init_1736.1
theorem dX10_init_1737 : decode cX10_init 1737 = .ok (.putfield 258, 3) := dk_dX10_init_1736.2.1
theorem dX10_init_1740 : decode cX10_init 1740 = .ok (.aload_n 0, 1) := dk_dX10_init_1736.2.2.1
theorem dX10_init_1741 : decode cX10_init 1741 = .ok (.iconst 4, 1) := dk_dX10_init_1736.2.2.2.1
theorem dX10_init_1742 : decode cX10_init 1742 = .ok (.newarray .char, 2) := dk_dX10_init_1736.2.2.2.2.1
theorem dX10_init_1744 : decode cX10_init 1744 = .ok (.dup, 1) := dk_dX10_init_1736.2.2.2.2.2.1
theorem dX10_init_1745 : decode cX10_init 1745 = .ok (.iconst 0, 1) := dk_dX10_init_1736.2.2.2.2.2.2.1
theorem dX10_init_1746 : decode cX10_init 1746 = .ok (.bipush 107, 2) := dk_dX10_init_1736.2.2.2.2.2.2.2.1
theorem dk_dX10_init_1736_8 : dz_C cX10_init [(1748, .castore, 1), (1749, .dup, 1), (1750, .iconst 1, 1), (1751, .bipush 105, 2), (1753, .castore, 1), (1754, .dup, 1), (1755, .iconst 2, 1), (1756, .bipush 110, 2)] := dk_dX10_init_1736.2.2.2.2.2.2.2.2
theorem dX10_init_1748 : decode cX10_init 1748 = .ok (.castore, 1) := dk_dX10_init_1736_8.1
theorem dX10_init_1749 : decode cX10_init 1749 = .ok (.dup, 1) := dk_dX10_init_1736_8.2.1
theorem dX10_init_1750 : decode cX10_init 1750 = .ok (.iconst 1, 1) := dk_dX10_init_1736_8.2.2.1
theorem dX10_init_1751 : decode cX10_init 1751 = .ok (.bipush 105, 2) := dk_dX10_init_1736_8.2.2.2.1
theorem dX10_init_1753 : decode cX10_init 1753 = .ok (.castore, 1) := dk_dX10_init_1736_8.2.2.2.2.1
theorem dX10_init_1754 : decode cX10_init 1754 = .ok (.dup, 1) := dk_dX10_init_1736_8.2.2.2.2.2.1
theorem dX10_init_1755 : decode cX10_init 1755 = .ok (.iconst 2, 1) := dk_dX10_init_1736_8.2.2.2.2.2.2.1
theorem dX10_init_1756 : decode cX10_init 1756 = .ok (.bipush 110, 2) := dk_dX10_init_1736_8.2.2.2.2.2.2.2.1
theorem dk_dX10_init_1758 : dz_C cX10_init [(1758, .castore, 1), (1759, .dup, 1), (1760, .iconst 3, 1), (1761, .bipush 100, 2), (1763, .castore, 1), (1764, .putfield 261, 3), (1767, .aload_n 0, 1), (1768, .sipush 1700, 3), (1771, .newarray .int, 2), (1773, .putfield 264, 3), (1776, .aload_n 0, 1), (1777, .sipush 1700, 3), (1780, .newarray .int, 2), (1782, .putfield 267, 3), (1785, .aload_n 0, 1), (1786, .sipush 1700, 3)] := dz_of (by decide +kernel)
theorem dX10_init_1758 : decode cX10_init 1758 = .ok (.castore, 1) := dk_dX10_init_1758.1
theorem dX10_init_1759 : decode cX10_init 1759 = .ok (.dup, 1) := dk_dX10_init_1758.2.1
theorem dX10_init_1760 : decode cX10_init 1760 = .ok (.iconst 3, 1) := dk_dX10_init_1758.2.2.1
theorem dX10_init_1761 : decode cX10_init 1761 = .ok (.bipush 100, 2) := dk_dX10_init_1758.2.2.2.1
theorem dX10_init_1763 : decode cX10_init 1763 = .ok (.castore, 1) := dk_dX10_init_1758.2.2.2.2.1
theorem dX10_init_1764 : decode cX10_init 1764 = .ok (.putfield 261, 3) := dk_dX10_init_1758.2.2.2.2.2.1
theorem dX10_init_1767 : decode cX10_init 1767 = .ok (.aload_n 0, 1) := dk_dX10_init_1758.2.2.2.2.2.2.1
theorem dX10_init_1768 : decode cX10_init 1768 = .ok (.sipush 1700, 3) := dk_dX10_init_1758.2.2.2.2.2.2.2.1
theorem dk_dX10_init_1758_8 : dz_C cX10_init [(1771, .newarray .int, 2), (1773, .putfield 264, 3), (1776, .aload_n 0, 1), (1777, .sipush 1700, 3), (1780, .newarray .int, 2), (1782, .putfield 267, 3), (1785, .aload_n 0, 1), (1786, .sipush 1700, 3)] := dk_dX10_init_1758.2.2.2.2.2.2.2.2
theorem dX10_init_1771 : decode cX10_init 1771 = .ok (.newarray .int, 2) := dk_dX10_init_1758_8.1
theorem dX10_init_1773 : decode cX10_init 1773 = .ok (.putfield 264, 3) := dk_dX10_init_1758_8.2.1
theorem dX10_init_1776 : decode cX10_init 1776 = .ok (.aload_n 0, 1) := dk_dX10_init_1758_8.2.2.1
theorem dX10_init_1777 : decode cX10_init 1777 = .ok (.sipush 1700, 3) := dk_dX10_init_1758_8.2.2.2.1
theorem dX10_init_1780 : decode cX10_init 1780 = .ok (.newarray .int, 2) := dk_dX10_init_1758_8.2.2.2.2.1
theorem dX10_init_1782 : decode cX10_init 1782 = .ok (.putfield 267, 3) := dk_dX10_init_1758_8.2.2.2.2.2.1
theorem dX10_init_1785 : decode cX10_init 1785 = .ok (.aload_n 0, 1) := dk_dX10_init_1758_8.2.2.2.2.2.2.1
theorem dX10_init_1786 : decode cX10_init 1786 = .ok (.sipush 1700, 3) := dk_dX10_init_1758_8.2.2.2.2.2.2.2.1
theorem dk_dX10_init_1789 : dz_C cX10_init [(1789, .newarray .long, 2), (1791, .putfield 270, 3), (1794, .aload_n 0, 1), (1795, .bipush 11, 2), (1797, .newarray .int, 2), (1799, .putfield 273, 3), (1802, .return_, 1)] := dz_of (by decide +kernel)
theorem dX10_init_1789 : decode cX10_init 1789 = .ok (.newarray .long, 2) := dk_dX10_init_1789.1
theorem dX10_init_1791 : decode cX10_init 1791 = .ok (.putfield 270, 3) := dk_dX10_init_1789.2.1
theorem dX10_init_1794 : decode cX10_init 1794 = .ok (.aload_n 0, 1) := dk_dX10_init_1789.2.2.1
theorem dX10_init_1795 : decode cX10_init 1795 = .ok (.bipush 11, 2) := dk_dX10_init_1789.2.2.2.1
theorem dX10_init_1797 : decode cX10_init 1797 = .ok (.newarray .int, 2) := dk_dX10_init_1789.2.2.2.2.1
theorem dX10_init_1799 : decode cX10_init 1799 = .ok (.putfield 273, 3) := dk_dX10_init_1789.2.2.2.2.2.1
theorem dX10_init_1802 : decode cX10_init 1802 = .ok (.return_, 1) := dk_dX10_init_1789.2.2.2.2.2.2.1
theorem dk_dX10_isAhead_0 : dz_C cX10_isAhead [(0, .aload_n 0, 1), (1, .getfield 417, 3), (4, .ifCond .eq 33, 3), (7, .iload_n 1, 1), (8, .i2l, 1), (9, .iload_n 2, 1), (10, .i2l, 1), (11, .iload_n 3, 1), (12, .i2l, 1), (13, .invokestatic 318, 3), (16, .ifCond .eq 21, 3), (19, .aload_n 0, 1), (20, .getfield 139, 3), (23, .iconst 0, 1), (24, .iaload, 1), (25, .iload_n 1, 1)] := dz_of (by decide +kernel)
theorem dX10_isAhead_0 : decode cX10_isAhead 0 = .ok (.aload_n 0, 1) := dk_dX10_isAhead_0.1
theorem dX10_isAhead_1 : decode cX10_isAhead 1 = .ok (.getfield 417, 3) := dk_dX10_isAhead_0.2.1
theorem dX10_isAhead_4 : decode cX10_isAhead 4 = .ok (.ifCond .eq 33, 3) := dk_dX10_isAhead_0.2.2.1
theorem dX10_isAhead_7 : decode cX10_isAhead 7 = .ok (.iload_n 1, 1) := dk_dX10_isAhead_0.2.2.2.1
theorem dX10_isAhead_8 : decode cX10_isAhead 8 = .ok (.i2l, 1) := dk_dX10_isAhead_0.2.2.2.2.1
theorem dX10_isAhead_9 : decode cX10_isAhead 9 = .ok (.iload_n 2, 1) := dk_dX10_isAhead_0.2.2.2.2.2.1
theorem dX10_isAhead_10 : decode cX10_isAhead 10 = .ok (.i2l, 1) := dk_dX10_isAhead_0.2.2.2.2.2.2.1
theorem dX10_isAhead_11 : decode cX10_isAhead 11 = .ok (.iload_n 3, 1) := dk_dX10_isAhead_0.2.2.2.2.2.2.2.1
theorem dk_dX10_isAhead_0_8 : dz_C cX10_isAhead [(12, .i2l, 1), (13, .invokestatic 318, 3), (16, .ifCond .eq 21, 3), (19, .aload_n 0, 1), (20, .getfield 139, 3), (23, .iconst 0, 1), (24, .iaload, 1), (25, .iload_n 1, 1)] := dk_dX10_isAhead_0.2.2.2.2.2.2.2.2
theorem dX10_isAhead_12 : decode cX10_isAhead 12 = .ok (.i2l, 1) := dk_dX10_isAhead_0_8.1
theorem dX10_isAhead_13 : decode cX10_isAhead 13 = .ok (.invokestatic 318, 3) := dk_dX10_isAhead_0_8.2.1
theorem dX10_isAhead_16 : decode cX10_isAhead 16 = .ok (.ifCond .eq 21, 3) := dk_dX10_isAhead_0_8.2.2.1
theorem dX10_isAhead_19 : decode cX10_isAhead 19 = .ok (.aload_n 0, 1) := dk_dX10_isAhead_0_8.2.2.2.1
theorem dX10_isAhead_20 : decode cX10_isAhead 20 = .ok (.getfield 139, 3) := dk_dX10_isAhead_0_8.2.2.2.2.1
theorem dX10_isAhead_23 : decode cX10_isAhead 23 = .ok (.iconst 0, 1) := dk_dX10_isAhead_0_8.2.2.2.2.2.1
theorem dX10_isAhead_24 : decode cX10_isAhead 24 = .ok (.iaload, 1) := dk_dX10_isAhead_0_8.2.2.2.2.2.2.1
theorem dX10_isAhead_25 : decode cX10_isAhead 25 = .ok (.iload_n 1, 1) := dk_dX10_isAhead_0_8.2.2.2.2.2.2.2.1
theorem dk_dX10_isAhead_26 : dz_C cX10_isAhead [(26, .iadd, 1), (27, .sipush 999, 3), (30, .if_icmp .gt 7, 3), (33, .iconst 1, 1), (34, .goto 4, 3), (37, .iconst 0, 1), (38, .ireturn, 1)] := dz_of (by decide +kernel)
theorem dX10_isAhead_26 : decode cX10_isAhead 26 = .ok (.iadd, 1) := dk_dX10_isAhead_26.1
theorem dX10_isAhead_27 : decode cX10_isAhead 27 = .ok (.sipush 999, 3) := dk_dX10_isAhead_26.2.1
theorem dX10_isAhead_30 : decode cX10_isAhead 30 = .ok (.if_icmp .gt 7, 3) := dk_dX10_isAhead_26.2.2.1
theorem dX10_isAhead_33 : decode cX10_isAhead 33 = .ok (.iconst 1, 1) := dk_dX10_isAhead_26.2.2.2.1
theorem dX10_isAhead_34 : decode cX10_isAhead 34 = .ok (.goto 4, 3) := dk_dX10_isAhead_26.2.2.2.2.1
theorem dX10_isAhead_37 : decode cX10_isAhead 37 = .ok (.iconst 0, 1) := dk_dX10_isAhead_26.2.2.2.2.2.1
theorem dX10_isAhead_38 : decode cX10_isAhead 38 = .ok (.ireturn, 1) := dk_dX10_isAhead_26.2.2.2.2.2.2.1
theorem dk_dX10_isAllowed_0 : dz_C cX10_isAllowed [(0, .aload_n 0, 1), (1, .getfield 333, 3), (32, .iload_n 1, 1), (33, .iconst 3, 1), (34, .if_icmp .ge 7, 3), (37, .iconst 1, 1), (38, .goto 4, 3), (41, .iconst 0, 1), (42, .ireturn, 1), (43, .iload_n 1, 1), (44, .iconst 2, 1), (45, .if_icmp .lt 17, 3), (48, .iload_n 1, 1), (49, .i2l, 1), (50, .ldc2_w 336, 3), (53, .ldc2_w 338, 3)] := dz_of (by decide +kernel)
theorem dX10_isAllowed_0 : decode cX10_isAllowed 0 = .ok (.aload_n 0, 1) := dk_dX10_isAllowed_0.1
theorem dX10_isAllowed_1 : decode cX10_isAllowed 1 = .ok (.getfield 333, 3) := dk_dX10_isAllowed_0.2.1
theorem dX10_isAllowed_32 : decode cX10_isAllowed 32 = .ok (.iload_n 1, 1) := dk_dX10_isAllowed_0.2.2.1
theorem dX10_isAllowed_33 : decode cX10_isAllowed 33 = .ok (.iconst 3, 1) := dk_dX10_isAllowed_0.2.2.2.1
theorem dX10_isAllowed_34 : decode cX10_isAllowed 34 = .ok (.if_icmp .ge 7, 3) := dk_dX10_isAllowed_0.2.2.2.2.1
theorem dX10_isAllowed_37 : decode cX10_isAllowed 37 = .ok (.iconst 1, 1) := dk_dX10_isAllowed_0.2.2.2.2.2.1
theorem dX10_isAllowed_38 : decode cX10_isAllowed 38 = .ok (.goto 4, 3) := dk_dX10_isAllowed_0.2.2.2.2.2.2.1
theorem dX10_isAllowed_41 : decode cX10_isAllowed 41 = .ok (.iconst 0, 1) := dk_dX10_isAllowed_0.2.2.2.2.2.2.2.1
theorem dk_dX10_isAllowed_0_8 : dz_C cX10_isAllowed [(42, .ireturn, 1), (43, .iload_n 1, 1), (44, .iconst 2, 1), (45, .if_icmp .lt 17, 3), (48, .iload_n 1, 1), (49, .i2l, 1), (50, .ldc2_w 336, 3), (53, .ldc2_w 338, 3)] := dk_dX10_isAllowed_0.2.2.2.2.2.2.2.2
theorem dX10_isAllowed_42 : decode cX10_isAllowed 42 = .ok (.ireturn, 1) := dk_dX10_isAllowed_0_8.1
theorem dX10_isAllowed_43 : decode cX10_isAllowed 43 = .ok (.iload_n 1, 1) := dk_dX10_isAllowed_0_8.2.1
theorem dX10_isAllowed_44 : decode cX10_isAllowed 44 = .ok (.iconst 2, 1) := dk_dX10_isAllowed_0_8.2.2.1
theorem dX10_isAllowed_45 : decode cX10_isAllowed 45 = .ok (.if_icmp .lt 17, 3) := dk_dX10_isAllowed_0_8.2.2.2.1
theorem dX10_isAllowed_48 : decode cX10_isAllowed 48 = .ok (.iload_n 1, 1) := dk_dX10_isAllowed_0_8.2.2.2.2.1
theorem dX10_isAllowed_49 : decode cX10_isAllowed 49 = .ok (.i2l, 1) := dk_dX10_isAllowed_0_8.2.2.2.2.2.1
theorem dX10_isAllowed_50 : decode cX10_isAllowed 50 = .ok (.ldc2_w 336, 3) := dk_dX10_isAllowed_0_8.2.2.2.2.2.2.1
theorem dX10_isAllowed_53 : decode cX10_isAllowed 53 = .ok (.ldc2_w 338, 3) := dk_dX10_isAllowed_0_8.2.2.2.2.2.2.2.1
theorem dX10_isAllowed_4 : decode cX10_isAllowed 4 = .ok (.tableswitch 89 0 2 #[28, 39, 64], 28) := by decide +kernel
theorem dk_dX10_isAllowed_56 : dz_C cX10_isAllowed [(56, .invokestatic 318, 3), (59, .ifCond .eq 7, 3), (62, .iconst 1, 1), (63, .goto 4, 3), (66, .iconst 0, 1), (67, .ireturn, 1), (68, .iload_n 1, 1), (69, .iconst 2, 1), (70, .if_icmp .lt 17, 3), (73, .iload_n 1, 1), (74, .i2l, 1), (75, .ldc2_w 336, 3), (78, .ldc2_w 340, 3), (81, .invokestatic 318, 3), (84, .ifCond .eq 7, 3), (87, .iconst 1, 1)] := dz_of (by decide +kernel)
theorem dX10_isAllowed_56 : decode cX10_isAllowed 56 = .ok (.invokestatic 318, 3) := dk_dX10_isAllowed_56.1
theorem dX10_isAllowed_59 : decode cX10_isAllowed 59 = .ok (.ifCond .eq 7, 3) := dk_dX10_isAllowed_56.2.1
theorem dX10_isAllowed_62 : decode cX10_isAllowed 62 = .ok (.iconst 1, 1) := dk_dX10_isAllowed_56.2.2.1
theorem dX10_isAllowed_63 : decode cX10_isAllowed 63 = .ok (.goto 4, 3) := dk_dX10_isAllowed_56.2.2.2.1
theorem dX10_isAllowed_66 : decode cX10_isAllowed 66 = .ok (.iconst 0, 1) := dk_dX10_isAllowed_56.2.2.2.2.1
theorem dX10_isAllowed_67 : decode cX10_isAllowed 67 = .ok (.ireturn, 1) := dk_dX10_isAllowed_56.2.2.2.2.2.1
theorem dX10_isAllowed_68 : decode cX10_isAllowed 68 = .ok (.iload_n 1, 1) := dk_dX10_isAllowed_56.2.2.2.2.2.2.1
theorem dX10_isAllowed_69 : decode cX10_isAllowed 69 = .ok (.iconst 2, 1) := dk_dX10_isAllowed_56.2.2.2.2.2.2.2.1
theorem dk_dX10_isAllowed_56_8 : dz_C cX10_isAllowed [(70, .if_icmp .lt 17, 3), (73, .iload_n 1, 1), (74, .i2l, 1), (75, .ldc2_w 336, 3), (78, .ldc2_w 340, 3), (81, .invokestatic 318, 3), (84, .ifCond .eq 7, 3), (87, .iconst 1, 1)] := dk_dX10_isAllowed_56.2.2.2.2.2.2.2.2
theorem dX10_isAllowed_70 : decode cX10_isAllowed 70 = .ok (.if_icmp .lt 17, 3) := dk_dX10_isAllowed_56_8.1
theorem dX10_isAllowed_73 : decode cX10_isAllowed 73 = .ok (.iload_n 1, 1) := dk_dX10_isAllowed_56_8.2.1
theorem dX10_isAllowed_74 : decode cX10_isAllowed 74 = .ok (.i2l, 1) := dk_dX10_isAllowed_56_8.2.2.1
theorem dX10_isAllowed_75 : decode cX10_isAllowed 75 = .ok (.ldc2_w 336, 3) := dk_dX10_isAllowed_56_8.2.2.2.1
theorem dX10_isAllowed_78 : decode cX10_isAllowed 78 = .ok (.ldc2_w 340, 3) := dk_dX10_isAllowed_56_8.2.2.2.2.1
theorem dX10_isAllowed_81 : decode cX10_isAllowed 81 = .ok (.invokestatic 318, 3) := dk_dX10_isAllowed_56_8.2.2.2.2.2.1
theorem dX10_isAllowed_84 : decode cX10_isAllowed 84 = .ok (.ifCond .eq 7, 3) := dk_dX10_isAllowed_56_8.2.2.2.2.2.2.1
theorem dX10_isAllowed_87 : decode cX10_isAllowed 87 = .ok (.iconst 1, 1) := dk_dX10_isAllowed_56_8.2.2.2.2.2.2.2.1
theorem dk_dX10_isAllowed_88 : dz_C cX10_isAllowed [(88, .goto 4, 3), (91, .iconst 0, 1), (92, .ireturn, 1), (93, .iload_n 1, 1), (94, .iconst 2, 1), (95, .if_icmp .lt 23, 3), (98, .iload_n 1, 1), (99, .i2l, 1), (100, .ldc2_w 336, 3), (103, .ldc2_w 340, 3), (106, .invokestatic 318, 3), (109, .ifCond .ne 9, 3), (112, .iload_n 1, 1), (113, .bipush 8, 2), (115, .if_icmp .le 7, 3), (118, .iconst 1, 1)] := dz_of (by decide +kernel)
theorem dX10_isAllowed_88 : decode cX10_isAllowed 88 = .ok (.goto 4, 3) := dk_dX10_isAllowed_88.1
theorem dX10_isAllowed_91 : decode cX10_isAllowed 91 = .ok (.iconst 0, 1) := dk_dX10_isAllowed_88.2.1
theorem dX10_isAllowed_92 : decode cX10_isAllowed 92 = .ok (.ireturn, 1) := dk_dX10_isAllowed_88.2.2.1
theorem dX10_isAllowed_93 : decode cX10_isAllowed 93 = .ok (.iload_n 1, 1) := dk_dX10_isAllowed_88.2.2.2.1
theorem dX10_isAllowed_94 : decode cX10_isAllowed 94 = .ok (.iconst 2, 1) := dk_dX10_isAllowed_88.2.2.2.2.1
theorem dX10_isAllowed_95 : decode cX10_isAllowed 95 = .ok (.if_icmp .lt 23, 3) := dk_dX10_isAllowed_88.2.2.2.2.2.1
theorem dX10_isAllowed_98 : decode cX10_isAllowed 98 = .ok (.iload_n 1, 1) := dk_dX10_isAllowed_88.2.2.2.2.2.2.1
theorem dX10_isAllowed_99 : decode cX10_isAllowed 99 = .ok (.i2l, 1) := dk_dX10_isAllowed_88.2.2.2.2.2.2.2.1
theorem dk_dX10_isAllowed_88_8 : dz_C cX10_isAllowed [(100, .ldc2_w 336, 3), (103, .ldc2_w 340, 3), (106, .invokestatic 318, 3), (109, .ifCond .ne 9, 3), (112, .iload_n 1, 1), (113, .bipush 8, 2), (115, .if_icmp .le 7, 3), (118, .iconst 1, 1)] := dk_dX10_isAllowed_88.2.2.2.2.2.2.2.2
theorem dX10_isAllowed_100 : decode cX10_isAllowed 100 = .ok (.ldc2_w 336, 3) := dk_dX10_isAllowed_88_8.1
theorem dX10_isAllowed_103 : decode cX10_isAllowed 103 = .ok (.ldc2_w 340, 3) := dk_dX10_isAllowed_88_8.2.1
theorem dX10_isAllowed_106 : decode cX10_isAllowed 106 = .ok (.invokestatic 318, 3) := dk_dX10_isAllowed_88_8.2.2.1
theorem dX10_isAllowed_109 : decode cX10_isAllowed 109 = .ok (.ifCond .ne 9, 3) := dk_dX10_isAllowed_88_8.2.2.2.1
theorem dX10_isAllowed_112 : decode cX10_isAllowed 112 = .ok (.iload_n 1, 1) := dk_dX10_isAllowed_88_8.2.2.2.2.1
theorem dX10_isAllowed_113 : decode cX10_isAllowed 113 = .ok (.bipush 8, 2) := dk_dX10_isAllowed_88_8.2.2.2.2.2.1
theorem dX10_isAllowed_115 : decode cX10_isAllowed 115 = .ok (.if_icmp .le 7, 3) := dk_dX10_isAllowed_88_8.2.2.2.2.2.2.1
theorem dX10_isAllowed_118 : decode cX10_isAllowed 118 = .ok (.iconst 1, 1) := dk_dX10_isAllowed_88_8.2.2.2.2.2.2.2.1
theorem dk_dX10_isAllowed_119 : dz_C cX10_isAllowed [(119, .goto 4, 3), (122, .iconst 0, 1), (123, .ireturn, 1)] := dz_of (by decide +kernel)
theorem dX10_isAllowed_119 : decode cX10_isAllowed 119 = .ok (.goto 4, 3) := dk_dX10_isAllowed_119.1
theorem dX10_isAllowed_122 : decode cX10_isAllowed 122 = .ok (.iconst 0, 1) := dk_dX10_isAllowed_119.2.1
theorem dX10_isAllowed_123 : decode cX10_isAllowed 123 = .ok (.ireturn, 1) := dk_dX10_isAllowed_119.2.2.1
theorem dk_dX10_isAsSeen_0 : dz_C cX10_isAsSeen [(0, .iconst 0, 1), (1, .istore_n 1, 1), (2, .iload_n 1, 1), (3, .aload_n 0, 1), (4, .getfield 427, 3), (7, .if_icmp .ge 37, 3), (10, .aload_n 0, 1), (11, .getfield 158, 3), (14, .aload_n 0, 1), (15, .getfield 176, 3), (18, .iconst 2, 1), (19, .iload_n 1, 1), (20, .imul, 1), (21, .iaload, 1), (22, .iaload, 1), (23, .aload_n 0, 1)] := dz_of (by decide +kernel)
theorem dX10_isAsSeen_0 : decode cX10_isAsSeen 0 = .ok (.iconst 0, 1) := dk_dX10_isAsSeen_0.1
theorem dX10_isAsSeen_1 : decode cX10_isAsSeen 1 = .ok (.istore_n 1, 1) := dk_dX10_isAsSeen_0.2.1
theorem dX10_isAsSeen_2 : decode cX10_isAsSeen 2 = .ok (.iload_n 1, 1) := dk_dX10_isAsSeen_0.2.2.1
theorem dX10_isAsSeen_3 : decode cX10_isAsSeen 3 = .ok (.aload_n 0, 1) := dk_dX10_isAsSeen_0.2.2.2.1
theorem dX10_isAsSeen_4 : decode cX10_isAsSeen 4 = .ok (.getfield 427, 3) := dk_dX10_isAsSeen_0.2.2.2.2.1
theorem dX10_isAsSeen_7 : decode cX10_isAsSeen 7 = .ok (.if_icmp .ge 37, 3) := dk_dX10_isAsSeen_0.2.2.2.2.2.1
theorem dX10_isAsSeen_10 : decode cX10_isAsSeen 10 = .ok (.aload_n 0, 1) := dk_dX10_isAsSeen_0.2.2.2.2.2.2.1
theorem dX10_isAsSeen_11 : decode cX10_isAsSeen 11 = .ok (.getfield 158, 3) := dk_dX10_isAsSeen_0.2.2.2.2.2.2.2.1
theorem dk_dX10_isAsSeen_0_8 : dz_C cX10_isAsSeen [(14, .aload_n 0, 1), (15, .getfield 176, 3), (18, .iconst 2, 1), (19, .iload_n 1, 1), (20, .imul, 1), (21, .iaload, 1), (22, .iaload, 1), (23, .aload_n 0, 1)] := dk_dX10_isAsSeen_0.2.2.2.2.2.2.2.2
theorem dX10_isAsSeen_14 : decode cX10_isAsSeen 14 = .ok (.aload_n 0, 1) := dk_dX10_isAsSeen_0_8.1
theorem dX10_isAsSeen_15 : decode cX10_isAsSeen 15 = .ok (.getfield 176, 3) := dk_dX10_isAsSeen_0_8.2.1
theorem dX10_isAsSeen_18 : decode cX10_isAsSeen 18 = .ok (.iconst 2, 1) := dk_dX10_isAsSeen_0_8.2.2.1
theorem dX10_isAsSeen_19 : decode cX10_isAsSeen 19 = .ok (.iload_n 1, 1) := dk_dX10_isAsSeen_0_8.2.2.2.1
theorem dX10_isAsSeen_20 : decode cX10_isAsSeen 20 = .ok (.imul, 1) := dk_dX10_isAsSeen_0_8.2.2.2.2.1
theorem dX10_isAsSeen_21 : decode cX10_isAsSeen 21 = .ok (.iaload, 1) := dk_dX10_isAsSeen_0_8.2.2.2.2.2.1
theorem dX10_isAsSeen_22 : decode cX10_isAsSeen 22 = .ok (.iaload, 1) := dk_dX10_isAsSeen_0_8.2.2.2.2.2.2.1
theorem dX10_isAsSeen_23 : decode cX10_isAsSeen 23 = .ok (.aload_n 0, 1) := dk_dX10_isAsSeen_0_8.2.2.2.2.2.2.2.1
theorem dk_dX10_isAsSeen_24 : dz_C cX10_isAsSeen [(24, .getfield 176, 3), (27, .iconst 2, 1), (28, .iload_n 1, 1), (29, .imul, 1), (30, .iconst 1, 1), (31, .iadd, 1), (32, .iaload, 1), (33, .if_icmp .eq 5, 3), (36, .iconst 0, 1), (37, .ireturn, 1), (38, .iinc 1 1, 3), (41, .goto (-39), 3), (44, .iconst 1, 1), (45, .ireturn, 1)] := dz_of (by decide +kernel)
theorem dX10_isAsSeen_24 : decode cX10_isAsSeen 24 = .ok (.getfield 176, 3) := dk_dX10_isAsSeen_24.1
theorem dX10_isAsSeen_27 : decode cX10_isAsSeen 27 = .ok (.iconst 2, 1) := dk_dX10_isAsSeen_24.2.1
theorem dX10_isAsSeen_28 : decode cX10_isAsSeen 28 = .ok (.iload_n 1, 1) := dk_dX10_isAsSeen_24.2.2.1
theorem dX10_isAsSeen_29 : decode cX10_isAsSeen 29 = .ok (.imul, 1) := dk_dX10_isAsSeen_24.2.2.2.1
theorem dX10_isAsSeen_30 : decode cX10_isAsSeen 30 = .ok (.iconst 1, 1) := dk_dX10_isAsSeen_24.2.2.2.2.1
theorem dX10_isAsSeen_31 : decode cX10_isAsSeen 31 = .ok (.iadd, 1) := dk_dX10_isAsSeen_24.2.2.2.2.2.1
theorem dX10_isAsSeen_32 : decode cX10_isAsSeen 32 = .ok (.iaload, 1) := dk_dX10_isAsSeen_24.2.2.2.2.2.2.1
theorem dX10_isAsSeen_33 : decode cX10_isAsSeen 33 = .ok (.if_icmp .eq 5, 3) := dk_dX10_isAsSeen_24.2.2.2.2.2.2.2.1
theorem dk_dX10_isAsSeen_24_8 : dz_C cX10_isAsSeen [(36, .iconst 0, 1), (37, .ireturn, 1), (38, .iinc 1 1, 3), (41, .goto (-39), 3), (44, .iconst 1, 1), (45, .ireturn, 1)] := dk_dX10_isAsSeen_24.2.2.2.2.2.2.2.2
theorem dX10_isAsSeen_36 : decode cX10_isAsSeen 36 = .ok (.iconst 0, 1) := dk_dX10_isAsSeen_24_8.1
theorem dX10_isAsSeen_37 : decode cX10_isAsSeen 37 = .ok (.ireturn, 1) := dk_dX10_isAsSeen_24_8.2.1
theorem dX10_isAsSeen_38 : decode cX10_isAsSeen 38 = .ok (.iinc 1 1, 3) := dk_dX10_isAsSeen_24_8.2.2.1
theorem dX10_isAsSeen_41 : decode cX10_isAsSeen 41 = .ok (.goto (-39), 3) := dk_dX10_isAsSeen_24_8.2.2.2.1
theorem dX10_isAsSeen_44 : decode cX10_isAsSeen 44 = .ok (.iconst 1, 1) := dk_dX10_isAsSeen_24_8.2.2.2.2.1
theorem dX10_isAsSeen_45 : decode cX10_isAsSeen 45 = .ok (.ireturn, 1) := dk_dX10_isAsSeen_24_8.2.2.2.2.2.1
theorem dk_dX10_isDigit_0 : dz_C cX10_isDigit [(0, .iload_n 0, 1), (1, .bipush 48, 2), (3, .if_icmp .lt 13, 3), (6, .iload_n 0, 1), (7, .bipush 57, 2), (9, .if_icmp .gt 7, 3), (12, .iconst 1, 1), (13, .goto 4, 3), (16, .iconst 0, 1), (17, .ireturn, 1)] := dz_of (by decide +kernel)
theorem dX10_isDigit_0 : decode cX10_isDigit 0 = .ok (.iload_n 0, 1) := dk_dX10_isDigit_0.1
theorem dX10_isDigit_1 : decode cX10_isDigit 1 = .ok (.bipush 48, 2) := dk_dX10_isDigit_0.2.1
theorem dX10_isDigit_3 : decode cX10_isDigit 3 = .ok (.if_icmp .lt 13, 3) := dk_dX10_isDigit_0.2.2.1
theorem dX10_isDigit_6 : decode cX10_isDigit 6 = .ok (.iload_n 0, 1) := dk_dX10_isDigit_0.2.2.2.1
theorem dX10_isDigit_7 : decode cX10_isDigit 7 = .ok (.bipush 57, 2) := dk_dX10_isDigit_0.2.2.2.2.1
theorem dX10_isDigit_9 : decode cX10_isDigit 9 = .ok (.if_icmp .gt 7, 3) := dk_dX10_isDigit_0.2.2.2.2.2.1
theorem dX10_isDigit_12 : decode cX10_isDigit 12 = .ok (.iconst 1, 1) := dk_dX10_isDigit_0.2.2.2.2.2.2.1
theorem dX10_isDigit_13 : decode cX10_isDigit 13 = .ok (.goto 4, 3) := dk_dX10_isDigit_0.2.2.2.2.2.2.2.1
theorem dk_dX10_isDigit_0_8 : dz_C cX10_isDigit [(16, .iconst 0, 1), (17, .ireturn, 1)] := dk_dX10_isDigit_0.2.2.2.2.2.2.2.2
theorem dX10_isDigit_16 : decode cX10_isDigit 16 = .ok (.iconst 0, 1) := dk_dX10_isDigit_0_8.1
theorem dX10_isDigit_17 : decode cX10_isDigit 17 = .ok (.ireturn, 1) := dk_dX10_isDigit_0_8.2.1
theorem dk_dX10_isFull_0 : dz_C cX10_isFull [(0, .aload_n 0, 1), (1, .getfield 279, 3), (4, .ifCond .ne 19, 3), (7, .aload_n 0, 1), (8, .getfield 111, 3), (11, .iload_n 1, 1), (12, .iaload, 1), (13, .iload_n 2, 1), (14, .if_icmp .ne 9, 3), (17, .aload_n 0, 1), (18, .iconst 5, 1), (19, .iload_n 3, 1), (20, .invokevirtual 308, 3), (23, .aload_n 0, 1), (24, .getfield 279, 3), (27, .ifCond .eq 7, 3)] := dz_of (by decide +kernel)
theorem dX10_isFull_0 : decode cX10_isFull 0 = .ok (.aload_n 0, 1) := dk_dX10_isFull_0.1
theorem dX10_isFull_1 : decode cX10_isFull 1 = .ok (.getfield 279, 3) := dk_dX10_isFull_0.2.1
theorem dX10_isFull_4 : decode cX10_isFull 4 = .ok (.ifCond .ne 19, 3) := dk_dX10_isFull_0.2.2.1
theorem dX10_isFull_7 : decode cX10_isFull 7 = .ok (.aload_n 0, 1) := dk_dX10_isFull_0.2.2.2.1
theorem dX10_isFull_8 : decode cX10_isFull 8 = .ok (.getfield 111, 3) := dk_dX10_isFull_0.2.2.2.2.1
theorem dX10_isFull_11 : decode cX10_isFull 11 = .ok (.iload_n 1, 1) := dk_dX10_isFull_0.2.2.2.2.2.1
theorem dX10_isFull_12 : decode cX10_isFull 12 = .ok (.iaload, 1) := dk_dX10_isFull_0.2.2.2.2.2.2.1
theorem dX10_isFull_13 : decode cX10_isFull 13 = .ok (.iload_n 2, 1) := dk_dX10_isFull_0.2.2.2.2.2.2.2.1
theorem dk_dX10_isFull_0_8 : dz_C cX10_isFull [(14, .if_icmp .ne 9, 3), (17, .aload_n 0, 1), (18, .iconst 5, 1), (19, .iload_n 3, 1), (20, .invokevirtual 308, 3), (23, .aload_n 0, 1), (24, .getfield 279, 3), (27, .ifCond .eq 7, 3)] := dk_dX10_isFull_0.2.2.2.2.2.2.2.2
theorem dX10_isFull_14 : decode cX10_isFull 14 = .ok (.if_icmp .ne 9, 3) := dk_dX10_isFull_0_8.1
theorem dX10_isFull_17 : decode cX10_isFull 17 = .ok (.aload_n 0, 1) := dk_dX10_isFull_0_8.2.1
theorem dX10_isFull_18 : decode cX10_isFull 18 = .ok (.iconst 5, 1) := dk_dX10_isFull_0_8.2.2.1
theorem dX10_isFull_19 : decode cX10_isFull 19 = .ok (.iload_n 3, 1) := dk_dX10_isFull_0_8.2.2.2.1
theorem dX10_isFull_20 : decode cX10_isFull 20 = .ok (.invokevirtual 308, 3) := dk_dX10_isFull_0_8.2.2.2.2.1
theorem dX10_isFull_23 : decode cX10_isFull 23 = .ok (.aload_n 0, 1) := dk_dX10_isFull_0_8.2.2.2.2.2.1
theorem dX10_isFull_24 : decode cX10_isFull 24 = .ok (.getfield 279, 3) := dk_dX10_isFull_0_8.2.2.2.2.2.2.1
theorem dX10_isFull_27 : decode cX10_isFull 27 = .ok (.ifCond .eq 7, 3) := dk_dX10_isFull_0_8.2.2.2.2.2.2.2.1
theorem dk_dX10_isFull_30 : dz_C cX10_isFull [(30, .iconst 1, 1), (31, .goto 4, 3), (34, .iconst 0, 1), (35, .ireturn, 1)] := dz_of (by decide +kernel)
theorem dX10_isFull_30 : decode cX10_isFull 30 = .ok (.iconst 1, 1) := dk_dX10_isFull_30.1
theorem dX10_isFull_31 : decode cX10_isFull 31 = .ok (.goto 4, 3) := dk_dX10_isFull_30.2.1
theorem dX10_isFull_34 : decode cX10_isFull 34 = .ok (.iconst 0, 1) := dk_dX10_isFull_30.2.2.1
theorem dX10_isFull_35 : decode cX10_isFull 35 = .ok (.ireturn, 1) := dk_dX10_isFull_30.2.2.2.1
theorem dk_dX10_isGreenLong_0 : dz_C cX10_isGreenLong [(0, .iload_n 1, 1), (1, .i2l, 1), (2, .lconst 1, 1), (3, .iload_n 2, 1), (4, .i2l, 1), (5, .invokestatic 318, 3), (8, .ifCond .eq 17, 3), (11, .iload_n 1, 1), (12, .aload_n 0, 1), (13, .getfield 118, 3), (16, .iconst 4, 1), (17, .iaload, 1), (18, .if_icmp .ge 7, 3), (21, .iconst 1, 1), (22, .goto 4, 3), (25, .iconst 0, 1)] := dz_of (by decide +kernel)
theorem dX10_isGreenLong_0 : decode cX10_isGreenLong 0 = .ok (.iload_n 1, 1) := dk_dX10_isGreenLong_0.1
theorem dX10_isGreenLong_1 : decode cX10_isGreenLong 1 = .ok (.i2l, 1) := dk_dX10_isGreenLong_0.2.1
theorem dX10_isGreenLong_2 : decode cX10_isGreenLong 2 = .ok (.lconst 1, 1) := dk_dX10_isGreenLong_0.2.2.1
theorem dX10_isGreenLong_3 : decode cX10_isGreenLong 3 = .ok (.iload_n 2, 1) := dk_dX10_isGreenLong_0.2.2.2.1
theorem dX10_isGreenLong_4 : decode cX10_isGreenLong 4 = .ok (.i2l, 1) := dk_dX10_isGreenLong_0.2.2.2.2.1
theorem dX10_isGreenLong_5 : decode cX10_isGreenLong 5 = .ok (.invokestatic 318, 3) := dk_dX10_isGreenLong_0.2.2.2.2.2.1
theorem dX10_isGreenLong_8 : decode cX10_isGreenLong 8 = .ok (.ifCond .eq 17, 3) := dk_dX10_isGreenLong_0.2.2.2.2.2.2.1
theorem dX10_isGreenLong_11 : decode cX10_isGreenLong 11 = .ok (.iload_n 1, 1) := dk_dX10_isGreenLong_0.2.2.2.2.2.2.2.1
theorem dk_dX10_isGreenLong_0_8 : dz_C cX10_isGreenLong [(12, .aload_n 0, 1), (13, .getfield 118, 3), (16, .iconst 4, 1), (17, .iaload, 1), (18, .if_icmp .ge 7, 3), (21, .iconst 1, 1), (22, .goto 4, 3), (25, .iconst 0, 1)] := dk_dX10_isGreenLong_0.2.2.2.2.2.2.2.2
theorem dX10_isGreenLong_12 : decode cX10_isGreenLong 12 = .ok (.aload_n 0, 1) := dk_dX10_isGreenLong_0_8.1
theorem dX10_isGreenLong_13 : decode cX10_isGreenLong 13 = .ok (.getfield 118, 3) := dk_dX10_isGreenLong_0_8.2.1
theorem dX10_isGreenLong_16 : decode cX10_isGreenLong 16 = .ok (.iconst 4, 1) := dk_dX10_isGreenLong_0_8.2.2.1
theorem dX10_isGreenLong_17 : decode cX10_isGreenLong 17 = .ok (.iaload, 1) := dk_dX10_isGreenLong_0_8.2.2.2.1
theorem dX10_isGreenLong_18 : decode cX10_isGreenLong 18 = .ok (.if_icmp .ge 7, 3) := dk_dX10_isGreenLong_0_8.2.2.2.2.1
theorem dX10_isGreenLong_21 : decode cX10_isGreenLong 21 = .ok (.iconst 1, 1) := dk_dX10_isGreenLong_0_8.2.2.2.2.2.1
theorem dX10_isGreenLong_22 : decode cX10_isGreenLong 22 = .ok (.goto 4, 3) := dk_dX10_isGreenLong_0_8.2.2.2.2.2.2.1
theorem dX10_isGreenLong_25 : decode cX10_isGreenLong 25 = .ok (.iconst 0, 1) := dk_dX10_isGreenLong_0_8.2.2.2.2.2.2.2.1
theorem dk_dX10_isGreenLong_26 : dz_C cX10_isGreenLong [(26, .ireturn, 1)] := dz_of (by decide +kernel)
theorem dX10_isGreenLong_26 : decode cX10_isGreenLong 26 = .ok (.ireturn, 1) := dk_dX10_isGreenLong_26.1
theorem dk_dX10_isHarmed_0 : dz_C cX10_isHarmed [(0, .aload_n 0, 1), (1, .getfield 149, 3), (4, .iload_n 2, 1), (5, .iaload, 1), (6, .aload_n 0, 1), (7, .iload_n 1, 1), (8, .invokevirtual 481, 3), (11, .if_icmp .ge 7, 3), (14, .iconst 1, 1), (15, .goto 4, 3), (18, .iconst 0, 1), (19, .ireturn, 1)] := dz_of (by decide +kernel)
theorem dX10_isHarmed_0 : decode cX10_isHarmed 0 = .ok (.aload_n 0, 1) := dk_dX10_isHarmed_0.1
theorem dX10_isHarmed_1 : decode cX10_isHarmed 1 = .ok (.getfield 149, 3) := dk_dX10_isHarmed_0.2.1
theorem dX10_isHarmed_4 : decode cX10_isHarmed 4 = .ok (.iload_n 2, 1) := dk_dX10_isHarmed_0.2.2.1
theorem dX10_isHarmed_5 : decode cX10_isHarmed 5 = .ok (.iaload, 1) := dk_dX10_isHarmed_0.2.2.2.1
theorem dX10_isHarmed_6 : decode cX10_isHarmed 6 = .ok (.aload_n 0, 1) := dk_dX10_isHarmed_0.2.2.2.2.1
theorem dX10_isHarmed_7 : decode cX10_isHarmed 7 = .ok (.iload_n 1, 1) := dk_dX10_isHarmed_0.2.2.2.2.2.1
theorem dX10_isHarmed_8 : decode cX10_isHarmed 8 = .ok (.invokevirtual 481, 3) := dk_dX10_isHarmed_0.2.2.2.2.2.2.1
theorem dX10_isHarmed_11 : decode cX10_isHarmed 11 = .ok (.if_icmp .ge 7, 3) := dk_dX10_isHarmed_0.2.2.2.2.2.2.2.1
theorem dk_dX10_isHarmed_0_8 : dz_C cX10_isHarmed [(14, .iconst 1, 1), (15, .goto 4, 3), (18, .iconst 0, 1), (19, .ireturn, 1)] := dk_dX10_isHarmed_0.2.2.2.2.2.2.2.2
theorem dX10_isHarmed_14 : decode cX10_isHarmed 14 = .ok (.iconst 1, 1) := dk_dX10_isHarmed_0_8.1
theorem dX10_isHarmed_15 : decode cX10_isHarmed 15 = .ok (.goto 4, 3) := dk_dX10_isHarmed_0_8.2.1
theorem dX10_isHarmed_18 : decode cX10_isHarmed 18 = .ok (.iconst 0, 1) := dk_dX10_isHarmed_0_8.2.2.1
theorem dX10_isHarmed_19 : decode cX10_isHarmed 19 = .ok (.ireturn, 1) := dk_dX10_isHarmed_0_8.2.2.2.1
theorem dk_dX10_isHere_0 : dz_C cX10_isHere [(0, .aload_n 0, 1), (1, .getfield 279, 3), (4, .ifCond .ne 24, 3), (7, .aload_n 0, 1), (8, .invokevirtual 291, 3), (11, .invokestatic 295, 3), (14, .ifCond .eq 14, 3), (17, .aload_n 0, 1), (18, .getfield 285, 3), (21, .aload_n 0, 1), (22, .getfield 299, 3), (25, .if_icmp .ne 5, 3), (28, .iconst 0, 1), (29, .ireturn, 1), (30, .aload_n 0, 1), (31, .getfield 285, 3)] := dz_of (by decide +kernel)
theorem dX10_isHere_0 : decode cX10_isHere 0 = .ok (.aload_n 0, 1) := dk_dX10_isHere_0.1
theorem dX10_isHere_1 : decode cX10_isHere 1 = .ok (.getfield 279, 3) := dk_dX10_isHere_0.2.1
theorem dX10_isHere_4 : decode cX10_isHere 4 = .ok (.ifCond .ne 24, 3) := dk_dX10_isHere_0.2.2.1
theorem dX10_isHere_7 : decode cX10_isHere 7 = .ok (.aload_n 0, 1) := dk_dX10_isHere_0.2.2.2.1
theorem dX10_isHere_8 : decode cX10_isHere 8 = .ok (.invokevirtual 291, 3) := dk_dX10_isHere_0.2.2.2.2.1
theorem dX10_isHere_11 : decode cX10_isHere 11 = .ok (.invokestatic 295, 3) := dk_dX10_isHere_0.2.2.2.2.2.1
theorem dX10_isHere_14 : decode cX10_isHere 14 = .ok (.ifCond .eq 14, 3) := dk_dX10_isHere_0.2.2.2.2.2.2.1
theorem dX10_isHere_17 : decode cX10_isHere 17 = .ok (.aload_n 0, 1) := dk_dX10_isHere_0.2.2.2.2.2.2.2.1
theorem dk_dX10_isHere_0_8 : dz_C cX10_isHere [(18, .getfield 285, 3), (21, .aload_n 0, 1), (22, .getfield 299, 3), (25, .if_icmp .ne 5, 3), (28, .iconst 0, 1), (29, .ireturn, 1), (30, .aload_n 0, 1), (31, .getfield 285, 3)] := dk_dX10_isHere_0.2.2.2.2.2.2.2.2
theorem dX10_isHere_18 : decode cX10_isHere 18 = .ok (.getfield 285, 3) := dk_dX10_isHere_0_8.1
theorem dX10_isHere_21 : decode cX10_isHere 21 = .ok (.aload_n 0, 1) := dk_dX10_isHere_0_8.2.1
theorem dX10_isHere_22 : decode cX10_isHere 22 = .ok (.getfield 299, 3) := dk_dX10_isHere_0_8.2.2.1
theorem dX10_isHere_25 : decode cX10_isHere 25 = .ok (.if_icmp .ne 5, 3) := dk_dX10_isHere_0_8.2.2.2.1
theorem dX10_isHere_28 : decode cX10_isHere 28 = .ok (.iconst 0, 1) := dk_dX10_isHere_0_8.2.2.2.2.1
theorem dX10_isHere_29 : decode cX10_isHere 29 = .ok (.ireturn, 1) := dk_dX10_isHere_0_8.2.2.2.2.2.1
theorem dX10_isHere_30 : decode cX10_isHere 30 = .ok (.aload_n 0, 1) := dk_dX10_isHere_0_8.2.2.2.2.2.2.1
theorem dX10_isHere_31 : decode cX10_isHere 31 = .ok (.getfield 285, 3) := dk_dX10_isHere_0_8.2.2.2.2.2.2.2.1
theorem dk_dX10_isHere_34 : dz_C cX10_isHere [(34, .istore_n 2, 1), (35, .iload_n 2, 1), (36, .aload_n 0, 1), (37, .getfield 288, 3), (40, .if_icmp .ge 21, 3), (43, .aload_n 0, 1), (44, .getfield 7, 3), (47, .iload_n 2, 1), (48, .iaload, 1), (49, .invokestatic 295, 3), (52, .ifCond .eq 9, 3), (55, .iinc 2 1, 3), (58, .goto (-23), 3), (61, .iload_n 2, 1), (62, .aload_n 0, 1), (63, .getfield 285, 3)] := dz_of (by decide +kernel)
theorem dX10_isHere_34 : decode cX10_isHere 34 = .ok (.istore_n 2, 1) := dk_dX10_isHere_34.1
theorem dX10_isHere_35 : decode cX10_isHere 35 = .ok (.iload_n 2, 1) := dk_dX10_isHere_34.2.1
theorem dX10_isHere_36 : decode cX10_isHere 36 = .ok (.aload_n 0, 1) := dk_dX10_isHere_34.2.2.1
theorem dX10_isHere_37 : decode cX10_isHere 37 = .ok (.getfield 288, 3) := dk_dX10_isHere_34.2.2.2.1
theorem dX10_isHere_40 : decode cX10_isHere 40 = .ok (.if_icmp .ge 21, 3) := dk_dX10_isHere_34.2.2.2.2.1
theorem dX10_isHere_43 : decode cX10_isHere 43 = .ok (.aload_n 0, 1) := dk_dX10_isHere_34.2.2.2.2.2.1
theorem dX10_isHere_44 : decode cX10_isHere 44 = .ok (.getfield 7, 3) := dk_dX10_isHere_34.2.2.2.2.2.2.1
theorem dX10_isHere_47 : decode cX10_isHere 47 = .ok (.iload_n 2, 1) := dk_dX10_isHere_34.2.2.2.2.2.2.2.1
theorem dk_dX10_isHere_34_8 : dz_C cX10_isHere [(48, .iaload, 1), (49, .invokestatic 295, 3), (52, .ifCond .eq 9, 3), (55, .iinc 2 1, 3), (58, .goto (-23), 3), (61, .iload_n 2, 1), (62, .aload_n 0, 1), (63, .getfield 285, 3)] := dk_dX10_isHere_34.2.2.2.2.2.2.2.2
theorem dX10_isHere_48 : decode cX10_isHere 48 = .ok (.iaload, 1) := dk_dX10_isHere_34_8.1
theorem dX10_isHere_49 : decode cX10_isHere 49 = .ok (.invokestatic 295, 3) := dk_dX10_isHere_34_8.2.1
theorem dX10_isHere_52 : decode cX10_isHere 52 = .ok (.ifCond .eq 9, 3) := dk_dX10_isHere_34_8.2.2.1
theorem dX10_isHere_55 : decode cX10_isHere 55 = .ok (.iinc 2 1, 3) := dk_dX10_isHere_34_8.2.2.2.1
theorem dX10_isHere_58 : decode cX10_isHere 58 = .ok (.goto (-23), 3) := dk_dX10_isHere_34_8.2.2.2.2.1
theorem dX10_isHere_61 : decode cX10_isHere 61 = .ok (.iload_n 2, 1) := dk_dX10_isHere_34_8.2.2.2.2.2.1
theorem dX10_isHere_62 : decode cX10_isHere 62 = .ok (.aload_n 0, 1) := dk_dX10_isHere_34_8.2.2.2.2.2.2.1
theorem dX10_isHere_63 : decode cX10_isHere 63 = .ok (.getfield 285, 3) := dk_dX10_isHere_34_8.2.2.2.2.2.2.2.1
theorem dk_dX10_isHere_66 : dz_C cX10_isHere [(66, .isub, 1), (67, .aload_n 1, 1), (68, .arraylength, 1), (69, .if_icmp .eq 5, 3), (72, .iconst 0, 1), (73, .ireturn, 1), (74, .iconst 0, 1), (75, .istore_n 3, 1), (76, .iload_n 3, 1), (77, .aload_n 1, 1), (78, .arraylength, 1), (79, .if_icmp .ge 28, 3), (82, .aload_n 0, 1), (83, .getfield 7, 3), (86, .aload_n 0, 1), (87, .getfield 285, 3)] := dz_of (by decide +kernel)
theorem dX10_isHere_66 : decode cX10_isHere 66 = .ok (.isub, 1) := dk_dX10_isHere_66.1
theorem dX10_isHere_67 : decode cX10_isHere 67 = .ok (.aload_n 1, 1) := dk_dX10_isHere_66.2.1
theorem dX10_isHere_68 : decode cX10_isHere 68 = .ok (.arraylength, 1) := dk_dX10_isHere_66.2.2.1
theorem dX10_isHere_69 : decode cX10_isHere 69 = .ok (.if_icmp .eq 5, 3) := dk_dX10_isHere_66.2.2.2.1
theorem dX10_isHere_72 : decode cX10_isHere 72 = .ok (.iconst 0, 1) := dk_dX10_isHere_66.2.2.2.2.1
theorem dX10_isHere_73 : decode cX10_isHere 73 = .ok (.ireturn, 1) := dk_dX10_isHere_66.2.2.2.2.2.1
theorem dX10_isHere_74 : decode cX10_isHere 74 = .ok (.iconst 0, 1) := dk_dX10_isHere_66.2.2.2.2.2.2.1
theorem dX10_isHere_75 : decode cX10_isHere 75 = .ok (.istore_n 3, 1) := dk_dX10_isHere_66.2.2.2.2.2.2.2.1
theorem dk_dX10_isHere_66_8 : dz_C cX10_isHere [(76, .iload_n 3, 1), (77, .aload_n 1, 1), (78, .arraylength, 1), (79, .if_icmp .ge 28, 3), (82, .aload_n 0, 1), (83, .getfield 7, 3), (86, .aload_n 0, 1), (87, .getfield 285, 3)] := dk_dX10_isHere_66.2.2.2.2.2.2.2.2
theorem dX10_isHere_76 : decode cX10_isHere 76 = .ok (.iload_n 3, 1) := dk_dX10_isHere_66_8.1
theorem dX10_isHere_77 : decode cX10_isHere 77 = .ok (.aload_n 1, 1) := dk_dX10_isHere_66_8.2.1
theorem dX10_isHere_78 : decode cX10_isHere 78 = .ok (.arraylength, 1) := dk_dX10_isHere_66_8.2.2.1
theorem dX10_isHere_79 : decode cX10_isHere 79 = .ok (.if_icmp .ge 28, 3) := dk_dX10_isHere_66_8.2.2.2.1
theorem dX10_isHere_82 : decode cX10_isHere 82 = .ok (.aload_n 0, 1) := dk_dX10_isHere_66_8.2.2.2.2.1
theorem dX10_isHere_83 : decode cX10_isHere 83 = .ok (.getfield 7, 3) := dk_dX10_isHere_66_8.2.2.2.2.2.1
theorem dX10_isHere_86 : decode cX10_isHere 86 = .ok (.aload_n 0, 1) := dk_dX10_isHere_66_8.2.2.2.2.2.2.1
theorem dX10_isHere_87 : decode cX10_isHere 87 = .ok (.getfield 285, 3) := dk_dX10_isHere_66_8.2.2.2.2.2.2.2.1
theorem dk_dX10_isHere_90 : dz_C cX10_isHere [(90, .iload_n 3, 1), (91, .iadd, 1), (92, .iaload, 1), (93, .aload_n 1, 1), (94, .iload_n 3, 1), (95, .caload, 1), (96, .if_icmp .eq 5, 3), (99, .iconst 0, 1), (100, .ireturn, 1), (101, .iinc 3 1, 3), (104, .goto (-28), 3), (107, .iconst 1, 1), (108, .ireturn, 1)] := dz_of (by decide +kernel)
theorem dX10_isHere_90 : decode cX10_isHere 90 = .ok (.iload_n 3, 1) := dk_dX10_isHere_90.1
theorem dX10_isHere_91 : decode cX10_isHere 91 = .ok (.iadd, 1) := dk_dX10_isHere_90.2.1
theorem dX10_isHere_92 : decode cX10_isHere 92 = .ok (.iaload, 1) := dk_dX10_isHere_90.2.2.1
theorem dX10_isHere_93 : decode cX10_isHere 93 = .ok (.aload_n 1, 1) := dk_dX10_isHere_90.2.2.2.1
theorem dX10_isHere_94 : decode cX10_isHere 94 = .ok (.iload_n 3, 1) := dk_dX10_isHere_90.2.2.2.2.1
theorem dX10_isHere_95 : decode cX10_isHere 95 = .ok (.caload, 1) := dk_dX10_isHere_90.2.2.2.2.2.1
theorem dX10_isHere_96 : decode cX10_isHere 96 = .ok (.if_icmp .eq 5, 3) := dk_dX10_isHere_90.2.2.2.2.2.2.1
theorem dX10_isHere_99 : decode cX10_isHere 99 = .ok (.iconst 0, 1) := dk_dX10_isHere_90.2.2.2.2.2.2.2.1
theorem dk_dX10_isHere_90_8 : dz_C cX10_isHere [(100, .ireturn, 1), (101, .iinc 3 1, 3), (104, .goto (-28), 3), (107, .iconst 1, 1), (108, .ireturn, 1)] := dk_dX10_isHere_90.2.2.2.2.2.2.2.2
theorem dX10_isHere_100 : decode cX10_isHere 100 = .ok (.ireturn, 1) := dk_dX10_isHere_90_8.1
theorem dX10_isHere_101 : decode cX10_isHere 101 = .ok (.iinc 3 1, 3) := dk_dX10_isHere_90_8.2.1
theorem dX10_isHere_104 : decode cX10_isHere 104 = .ok (.goto (-28), 3) := dk_dX10_isHere_90_8.2.2.1
theorem dX10_isHere_107 : decode cX10_isHere 107 = .ok (.iconst 1, 1) := dk_dX10_isHere_90_8.2.2.2.1
theorem dX10_isHere_108 : decode cX10_isHere 108 = .ok (.ireturn, 1) := dk_dX10_isHere_90_8.2.2.2.2.1
theorem dk_dX10_isImage_0 : dz_C cX10_isImage [(0, .aload_n 0, 1), (1, .getfield 417, 3), (4, .ifCond .eq 82, 3), (7, .iload_n 1, 1), (8, .iconst 5, 1), (9, .aload_n 0, 1), (10, .invokevirtual 430, 3), (13, .iadd, 1), (14, .if_icmp .ne 72, 3), (17, .aload_n 0, 1), (18, .getfield 7, 3), (21, .iload_n 1, 1), (22, .iconst 1, 1), (23, .isub, 1), (24, .iaload, 1), (25, .aload_n 0, 1)] := dz_of (by decide +kernel)
theorem dX10_isImage_0 : decode cX10_isImage 0 = .ok (.aload_n 0, 1) := dk_dX10_isImage_0.1
theorem dX10_isImage_1 : decode cX10_isImage 1 = .ok (.getfield 417, 3) := dk_dX10_isImage_0.2.1
theorem dX10_isImage_4 : decode cX10_isImage 4 = .ok (.ifCond .eq 82, 3) := dk_dX10_isImage_0.2.2.1
theorem dX10_isImage_7 : decode cX10_isImage 7 = .ok (.iload_n 1, 1) := dk_dX10_isImage_0.2.2.2.1
theorem dX10_isImage_8 : decode cX10_isImage 8 = .ok (.iconst 5, 1) := dk_dX10_isImage_0.2.2.2.2.1
theorem dX10_isImage_9 : decode cX10_isImage 9 = .ok (.aload_n 0, 1) := dk_dX10_isImage_0.2.2.2.2.2.1
theorem dX10_isImage_10 : decode cX10_isImage 10 = .ok (.invokevirtual 430, 3) := dk_dX10_isImage_0.2.2.2.2.2.2.1
theorem dX10_isImage_13 : decode cX10_isImage 13 = .ok (.iadd, 1) := dk_dX10_isImage_0.2.2.2.2.2.2.2.1
theorem dk_dX10_isImage_0_8 : dz_C cX10_isImage [(14, .if_icmp .ne 72, 3), (17, .aload_n 0, 1), (18, .getfield 7, 3), (21, .iload_n 1, 1), (22, .iconst 1, 1), (23, .isub, 1), (24, .iaload, 1), (25, .aload_n 0, 1)] := dk_dX10_isImage_0.2.2.2.2.2.2.2.2
theorem dX10_isImage_14 : decode cX10_isImage 14 = .ok (.if_icmp .ne 72, 3) := dk_dX10_isImage_0_8.1
theorem dX10_isImage_17 : decode cX10_isImage 17 = .ok (.aload_n 0, 1) := dk_dX10_isImage_0_8.2.1
theorem dX10_isImage_18 : decode cX10_isImage 18 = .ok (.getfield 7, 3) := dk_dX10_isImage_0_8.2.2.1
theorem dX10_isImage_21 : decode cX10_isImage 21 = .ok (.iload_n 1, 1) := dk_dX10_isImage_0_8.2.2.2.1
theorem dX10_isImage_22 : decode cX10_isImage 22 = .ok (.iconst 1, 1) := dk_dX10_isImage_0_8.2.2.2.2.1
theorem dX10_isImage_23 : decode cX10_isImage 23 = .ok (.isub, 1) := dk_dX10_isImage_0_8.2.2.2.2.2.1
theorem dX10_isImage_24 : decode cX10_isImage 24 = .ok (.iaload, 1) := dk_dX10_isImage_0_8.2.2.2.2.2.2.1
theorem dX10_isImage_25 : decode cX10_isImage 25 = .ok (.aload_n 0, 1) := dk_dX10_isImage_0_8.2.2.2.2.2.2.2.1
theorem dk_dX10_isImage_26 : dz_C cX10_isImage [(26, .getfield 7, 3), (29, .iload_n 1, 1), (30, .iconst 1, 1), (31, .isub, 1), (32, .invokestatic 705, 3), (35, .if_icmp .ne 51, 3), (38, .sipush 256, 3), (41, .aload_n 0, 1), (42, .getfield 7, 3), (45, .iconst 0, 1), (46, .iaload, 1), (47, .imul, 1), (48, .aload_n 0, 1), (49, .getfield 7, 3), (52, .iconst 1, 1), (53, .iaload, 1)] := dz_of (by decide +kernel)
theorem dX10_isImage_26 : decode cX10_isImage 26 = .ok (.getfield 7, 3) := dk_dX10_isImage_26.1
theorem dX10_isImage_29 : decode cX10_isImage 29 = .ok (.iload_n 1, 1) := dk_dX10_isImage_26.2.1
theorem dX10_isImage_30 : decode cX10_isImage 30 = .ok (.iconst 1, 1) := dk_dX10_isImage_26.2.2.1
theorem dX10_isImage_31 : decode cX10_isImage 31 = .ok (.isub, 1) := dk_dX10_isImage_26.2.2.2.1
theorem dX10_isImage_32 : decode cX10_isImage 32 = .ok (.invokestatic 705, 3) := dk_dX10_isImage_26.2.2.2.2.1
theorem dX10_isImage_35 : decode cX10_isImage 35 = .ok (.if_icmp .ne 51, 3) := dk_dX10_isImage_26.2.2.2.2.2.1
theorem dX10_isImage_38 : decode cX10_isImage 38 = .ok (.sipush 256, 3) := dk_dX10_isImage_26.2.2.2.2.2.2.1
theorem dX10_isImage_41 : decode cX10_isImage 41 = .ok (.aload_n 0, 1) := dk_dX10_isImage_26.2.2.2.2.2.2.2.1
theorem dk_dX10_isImage_26_8 : dz_C cX10_isImage [(42, .getfield 7, 3), (45, .iconst 0, 1), (46, .iaload, 1), (47, .imul, 1), (48, .aload_n 0, 1), (49, .getfield 7, 3), (52, .iconst 1, 1), (53, .iaload, 1)] := dk_dX10_isImage_26.2.2.2.2.2.2.2.2
theorem dX10_isImage_42 : decode cX10_isImage 42 = .ok (.getfield 7, 3) := dk_dX10_isImage_26_8.1
theorem dX10_isImage_45 : decode cX10_isImage 45 = .ok (.iconst 0, 1) := dk_dX10_isImage_26_8.2.1
theorem dX10_isImage_46 : decode cX10_isImage 46 = .ok (.iaload, 1) := dk_dX10_isImage_26_8.2.2.1
theorem dX10_isImage_47 : decode cX10_isImage 47 = .ok (.imul, 1) := dk_dX10_isImage_26_8.2.2.2.1
theorem dX10_isImage_48 : decode cX10_isImage 48 = .ok (.aload_n 0, 1) := dk_dX10_isImage_26_8.2.2.2.2.1
theorem dX10_isImage_49 : decode cX10_isImage 49 = .ok (.getfield 7, 3) := dk_dX10_isImage_26_8.2.2.2.2.2.1
theorem dX10_isImage_52 : decode cX10_isImage 52 = .ok (.iconst 1, 1) := dk_dX10_isImage_26_8.2.2.2.2.2.2.1
theorem dX10_isImage_53 : decode cX10_isImage 53 = .ok (.iaload, 1) := dk_dX10_isImage_26_8.2.2.2.2.2.2.2.1
theorem dk_dX10_isImage_54 : dz_C cX10_isImage [(54, .iadd, 1), (55, .sipush 999, 3), (58, .if_icmp .gt 28, 3), (61, .aload_n 0, 1), (62, .getfield 7, 3), (65, .iconst 2, 1), (66, .iaload, 1), (67, .iconst 2, 1), (68, .if_icmp .gt 18, 3), (71, .aload_n 0, 1), (72, .aload_n 0, 1), (73, .getfield 7, 3), (76, .iconst 3, 1), (77, .iaload, 1), (78, .bipush 60, 2), (80, .invokevirtual 548, 3)] := dz_of (by decide +kernel)
theorem dX10_isImage_54 : decode cX10_isImage 54 = .ok (.iadd, 1) := dk_dX10_isImage_54.1
theorem dX10_isImage_55 : decode cX10_isImage 55 = .ok (.sipush 999, 3) := dk_dX10_isImage_54.2.1
theorem dX10_isImage_58 : decode cX10_isImage 58 = .ok (.if_icmp .gt 28, 3) := dk_dX10_isImage_54.2.2.1
theorem dX10_isImage_61 : decode cX10_isImage 61 = .ok (.aload_n 0, 1) := dk_dX10_isImage_54.2.2.2.1
theorem dX10_isImage_62 : decode cX10_isImage 62 = .ok (.getfield 7, 3) := dk_dX10_isImage_54.2.2.2.2.1
theorem dX10_isImage_65 : decode cX10_isImage 65 = .ok (.iconst 2, 1) := dk_dX10_isImage_54.2.2.2.2.2.1
theorem dX10_isImage_66 : decode cX10_isImage 66 = .ok (.iaload, 1) := dk_dX10_isImage_54.2.2.2.2.2.2.1
theorem dX10_isImage_67 : decode cX10_isImage 67 = .ok (.iconst 2, 1) := dk_dX10_isImage_54.2.2.2.2.2.2.2.1
theorem dk_dX10_isImage_54_8 : dz_C cX10_isImage [(68, .if_icmp .gt 18, 3), (71, .aload_n 0, 1), (72, .aload_n 0, 1), (73, .getfield 7, 3), (76, .iconst 3, 1), (77, .iaload, 1), (78, .bipush 60, 2), (80, .invokevirtual 548, 3)] := dk_dX10_isImage_54.2.2.2.2.2.2.2.2
theorem dX10_isImage_68 : decode cX10_isImage 68 = .ok (.if_icmp .gt 18, 3) := dk_dX10_isImage_54_8.1
theorem dX10_isImage_71 : decode cX10_isImage 71 = .ok (.aload_n 0, 1) := dk_dX10_isImage_54_8.2.1
theorem dX10_isImage_72 : decode cX10_isImage 72 = .ok (.aload_n 0, 1) := dk_dX10_isImage_54_8.2.2.1
theorem dX10_isImage_73 : decode cX10_isImage 73 = .ok (.getfield 7, 3) := dk_dX10_isImage_54_8.2.2.2.1
theorem dX10_isImage_76 : decode cX10_isImage 76 = .ok (.iconst 3, 1) := dk_dX10_isImage_54_8.2.2.2.2.1
theorem dX10_isImage_77 : decode cX10_isImage 77 = .ok (.iaload, 1) := dk_dX10_isImage_54_8.2.2.2.2.2.1
theorem dX10_isImage_78 : decode cX10_isImage 78 = .ok (.bipush 60, 2) := dk_dX10_isImage_54_8.2.2.2.2.2.2.1
theorem dX10_isImage_80 : decode cX10_isImage 80 = .ok (.invokevirtual 548, 3) := dk_dX10_isImage_54_8.2.2.2.2.2.2.2.1
theorem dk_dX10_isImage_83 : dz_C cX10_isImage [(83, .ifCond .ne 5, 3), (86, .iconst 0, 1), (87, .ireturn, 1), (88, .iconst 0, 1), (89, .istore_n 2, 1), (90, .iload_n 2, 1), (91, .aload_n 0, 1), (92, .invokevirtual 430, 3), (95, .if_icmp .ge 24, 3), (98, .aload_n 0, 1), (99, .getfield 7, 3), (102, .iconst 4, 1), (103, .iload_n 2, 1), (104, .iadd, 1), (105, .iaload, 1), (106, .bipush 9, 2)] := dz_of (by decide +kernel)
theorem dX10_isImage_83 : decode cX10_isImage 83 = .ok (.ifCond .ne 5, 3) := dk_dX10_isImage_83.1
theorem dX10_isImage_86 : decode cX10_isImage 86 = .ok (.iconst 0, 1) := dk_dX10_isImage_83.2.1
theorem dX10_isImage_87 : decode cX10_isImage 87 = .ok (.ireturn, 1) := dk_dX10_isImage_83.2.2.1
theorem dX10_isImage_88 : decode cX10_isImage 88 = .ok (.iconst 0, 1) := dk_dX10_isImage_83.2.2.2.1
theorem dX10_isImage_89 : decode cX10_isImage 89 = .ok (.istore_n 2, 1) := dk_dX10_isImage_83.2.2.2.2.1
theorem dX10_isImage_90 : decode cX10_isImage 90 = .ok (.iload_n 2, 1) := dk_dX10_isImage_83.2.2.2.2.2.1
theorem dX10_isImage_91 : decode cX10_isImage 91 = .ok (.aload_n 0, 1) := dk_dX10_isImage_83.2.2.2.2.2.2.1
theorem dX10_isImage_92 : decode cX10_isImage 92 = .ok (.invokevirtual 430, 3) := dk_dX10_isImage_83.2.2.2.2.2.2.2.1
theorem dk_dX10_isImage_83_8 : dz_C cX10_isImage [(95, .if_icmp .ge 24, 3), (98, .aload_n 0, 1), (99, .getfield 7, 3), (102, .iconst 4, 1), (103, .iload_n 2, 1), (104, .iadd, 1), (105, .iaload, 1), (106, .bipush 9, 2)] := dk_dX10_isImage_83.2.2.2.2.2.2.2.2
theorem dX10_isImage_95 : decode cX10_isImage 95 = .ok (.if_icmp .ge 24, 3) := dk_dX10_isImage_83_8.1
theorem dX10_isImage_98 : decode cX10_isImage 98 = .ok (.aload_n 0, 1) := dk_dX10_isImage_83_8.2.1
theorem dX10_isImage_99 : decode cX10_isImage 99 = .ok (.getfield 7, 3) := dk_dX10_isImage_83_8.2.2.1
theorem dX10_isImage_102 : decode cX10_isImage 102 = .ok (.iconst 4, 1) := dk_dX10_isImage_83_8.2.2.2.1
theorem dX10_isImage_103 : decode cX10_isImage 103 = .ok (.iload_n 2, 1) := dk_dX10_isImage_83_8.2.2.2.2.1
theorem dX10_isImage_104 : decode cX10_isImage 104 = .ok (.iadd, 1) := dk_dX10_isImage_83_8.2.2.2.2.2.1
theorem dX10_isImage_105 : decode cX10_isImage 105 = .ok (.iaload, 1) := dk_dX10_isImage_83_8.2.2.2.2.2.2.1
theorem dX10_isImage_106 : decode cX10_isImage 106 = .ok (.bipush 9, 2) := dk_dX10_isImage_83_8.2.2.2.2.2.2.2.1
theorem dk_dX10_isImage_108 : dz_C cX10_isImage [(108, .if_icmp .le 5, 3), (111, .iconst 0, 1), (112, .ireturn, 1), (113, .iinc 2 1, 3), (116, .goto (-26), 3), (119, .iconst 1, 1), (120, .ireturn, 1)] := dz_of (by decide +kernel)
theorem dX10_isImage_108 : decode cX10_isImage 108 = .ok (.if_icmp .le 5, 3) := dk_dX10_isImage_108.1
theorem dX10_isImage_111 : decode cX10_isImage 111 = .ok (.iconst 0, 1) := dk_dX10_isImage_108.2.1
theorem dX10_isImage_112 : decode cX10_isImage 112 = .ok (.ireturn, 1) := dk_dX10_isImage_108.2.2.1
theorem dX10_isImage_113 : decode cX10_isImage 113 = .ok (.iinc 2 1, 3) := dk_dX10_isImage_108.2.2.2.1
theorem dX10_isImage_116 : decode cX10_isImage 116 = .ok (.goto (-26), 3) := dk_dX10_isImage_108.2.2.2.2.1
theorem dX10_isImage_119 : decode cX10_isImage 119 = .ok (.iconst 1, 1) := dk_dX10_isImage_108.2.2.2.2.2.1
theorem dX10_isImage_120 : decode cX10_isImage 120 = .ok (.ireturn, 1) := dk_dX10_isImage_108.2.2.2.2.2.2.1
theorem dk_dX10_isIn_0 : dz_C cX10_isIn [(0, .lload_n 0, 1), (1, .lload_n 2, 1), (2, .lcmp, 1), (3, .ifCond .lt 14, 3), (6, .lload_n 0, 1), (7, .lload 4, 2), (9, .lcmp, 1), (10, .ifCond .gt 7, 3), (13, .iconst 1, 1), (14, .goto 4, 3), (17, .iconst 0, 1), (18, .ireturn, 1)] := dz_of (by decide +kernel)
theorem dX10_isIn_0 : decode cX10_isIn 0 = .ok (.lload_n 0, 1) := dk_dX10_isIn_0.1
theorem dX10_isIn_1 : decode cX10_isIn 1 = .ok (.lload_n 2, 1) := dk_dX10_isIn_0.2.1
theorem dX10_isIn_2 : decode cX10_isIn 2 = .ok (.lcmp, 1) := dk_dX10_isIn_0.2.2.1
theorem dX10_isIn_3 : decode cX10_isIn 3 = .ok (.ifCond .lt 14, 3) := dk_dX10_isIn_0.2.2.2.1
theorem dX10_isIn_6 : decode cX10_isIn 6 = .ok (.lload_n 0, 1) := dk_dX10_isIn_0.2.2.2.2.1
theorem dX10_isIn_7 : decode cX10_isIn 7 = .ok (.lload 4, 2) := dk_dX10_isIn_0.2.2.2.2.2.1
theorem dX10_isIn_9 : decode cX10_isIn 9 = .ok (.lcmp, 1) := dk_dX10_isIn_0.2.2.2.2.2.2.1
theorem dX10_isIn_10 : decode cX10_isIn 10 = .ok (.ifCond .gt 7, 3) := dk_dX10_isIn_0.2.2.2.2.2.2.2.1
theorem dk_dX10_isIn_0_8 : dz_C cX10_isIn [(13, .iconst 1, 1), (14, .goto 4, 3), (17, .iconst 0, 1), (18, .ireturn, 1)] := dk_dX10_isIn_0.2.2.2.2.2.2.2.2
theorem dX10_isIn_13 : decode cX10_isIn 13 = .ok (.iconst 1, 1) := dk_dX10_isIn_0_8.1
theorem dX10_isIn_14 : decode cX10_isIn 14 = .ok (.goto 4, 3) := dk_dX10_isIn_0_8.2.1
theorem dX10_isIn_17 : decode cX10_isIn 17 = .ok (.iconst 0, 1) := dk_dX10_isIn_0_8.2.2.1
theorem dX10_isIn_18 : decode cX10_isIn 18 = .ok (.ireturn, 1) := dk_dX10_isIn_0_8.2.2.2.1
theorem dk_dX10_isKind_0 : dz_C cX10_isKind [(0, .iload_n 1, 1), (1, .i2l, 1), (2, .lconst 0, 1), (3, .aload_n 0, 1), (4, .invokevirtual 430, 3), (7, .iconst 1, 1), (8, .isub, 1), (9, .i2l, 1), (10, .invokestatic 318, 3), (13, .ireturn, 1)] := dz_of (by decide +kernel)
theorem dX10_isKind_0 : decode cX10_isKind 0 = .ok (.iload_n 1, 1) := dk_dX10_isKind_0.1
theorem dX10_isKind_1 : decode cX10_isKind 1 = .ok (.i2l, 1) := dk_dX10_isKind_0.2.1
theorem dX10_isKind_2 : decode cX10_isKind 2 = .ok (.lconst 0, 1) := dk_dX10_isKind_0.2.2.1
theorem dX10_isKind_3 : decode cX10_isKind 3 = .ok (.aload_n 0, 1) := dk_dX10_isKind_0.2.2.2.1
theorem dX10_isKind_4 : decode cX10_isKind 4 = .ok (.invokevirtual 430, 3) := dk_dX10_isKind_0.2.2.2.2.1
theorem dX10_isKind_7 : decode cX10_isKind 7 = .ok (.iconst 1, 1) := dk_dX10_isKind_0.2.2.2.2.2.1
theorem dX10_isKind_8 : decode cX10_isKind 8 = .ok (.isub, 1) := dk_dX10_isKind_0.2.2.2.2.2.2.1
theorem dX10_isKind_9 : decode cX10_isKind 9 = .ok (.i2l, 1) := dk_dX10_isKind_0.2.2.2.2.2.2.2.1
theorem dk_dX10_isKind_0_8 : dz_C cX10_isKind [(10, .invokestatic 318, 3), (13, .ireturn, 1)] := dk_dX10_isKind_0.2.2.2.2.2.2.2.2
theorem dX10_isKind_10 : decode cX10_isKind 10 = .ok (.invokestatic 318, 3) := dk_dX10_isKind_0_8.1
theorem dX10_isKind_13 : decode cX10_isKind 13 = .ok (.ireturn, 1) := dk_dX10_isKind_0_8.2.1
theorem dk_dX10_isLetter_0 : dz_C cX10_isLetter [(0, .iload_n 0, 1), (1, .bipush 97, 2), (3, .if_icmp .lt 13, 3), (6, .iload_n 0, 1), (7, .bipush 122, 2), (9, .if_icmp .gt 7, 3), (12, .iconst 1, 1), (13, .goto 4, 3), (16, .iconst 0, 1), (17, .ireturn, 1)] := dz_of (by decide +kernel)
theorem dX10_isLetter_0 : decode cX10_isLetter 0 = .ok (.iload_n 0, 1) := dk_dX10_isLetter_0.1
theorem dX10_isLetter_1 : decode cX10_isLetter 1 = .ok (.bipush 97, 2) := dk_dX10_isLetter_0.2.1
theorem dX10_isLetter_3 : decode cX10_isLetter 3 = .ok (.if_icmp .lt 13, 3) := dk_dX10_isLetter_0.2.2.1
theorem dX10_isLetter_6 : decode cX10_isLetter 6 = .ok (.iload_n 0, 1) := dk_dX10_isLetter_0.2.2.2.1
theorem dX10_isLetter_7 : decode cX10_isLetter 7 = .ok (.bipush 122, 2) := dk_dX10_isLetter_0.2.2.2.2.1
theorem dX10_isLetter_9 : decode cX10_isLetter 9 = .ok (.if_icmp .gt 7, 3) := dk_dX10_isLetter_0.2.2.2.2.2.1
theorem dX10_isLetter_12 : decode cX10_isLetter 12 = .ok (.iconst 1, 1) := dk_dX10_isLetter_0.2.2.2.2.2.2.1
theorem dX10_isLetter_13 : decode cX10_isLetter 13 = .ok (.goto 4, 3) := dk_dX10_isLetter_0.2.2.2.2.2.2.2.1
theorem dk_dX10_isLetter_0_8 : dz_C cX10_isLetter [(16, .iconst 0, 1), (17, .ireturn, 1)] := dk_dX10_isLetter_0.2.2.2.2.2.2.2.2
theorem dX10_isLetter_16 : decode cX10_isLetter 16 = .ok (.iconst 0, 1) := dk_dX10_isLetter_0_8.1
theorem dX10_isLetter_17 : decode cX10_isLetter 17 = .ok (.ireturn, 1) := dk_dX10_isLetter_0_8.2.1
theorem dk_dX10_isLit_0 : dz_C cX10_isLit [(0, .iload_n 1, 1), (1, .aload_n 0, 1), (2, .getfield 118, 3), (5, .iconst 4, 1), (6, .iaload, 1), (7, .irem, 1), (8, .istore 4, 2), (10, .aload_n 0, 1), (11, .iload_n 3, 1), (12, .iload 4, 2), (14, .isub, 1), (15, .putfield 469, 3), (18, .iload_n 2, 1), (19, .ifCond .ne 15, 3), (22, .iload 4, 2), (24, .iload_n 3, 1)] := dz_of (by decide +kernel)
theorem dX10_isLit_0 : decode cX10_isLit 0 = .ok (.iload_n 1, 1) := dk_dX10_isLit_0.1
theorem dX10_isLit_1 : decode cX10_isLit 1 = .ok (.aload_n 0, 1) := dk_dX10_isLit_0.2.1
theorem dX10_isLit_2 : decode cX10_isLit 2 = .ok (.getfield 118, 3) := dk_dX10_isLit_0.2.2.1
theorem dX10_isLit_5 : decode cX10_isLit 5 = .ok (.iconst 4, 1) := dk_dX10_isLit_0.2.2.2.1
theorem dX10_isLit_6 : decode cX10_isLit 6 = .ok (.iaload, 1) := dk_dX10_isLit_0.2.2.2.2.1
theorem dX10_isLit_7 : decode cX10_isLit 7 = .ok (.irem, 1) := dk_dX10_isLit_0.2.2.2.2.2.1
theorem dX10_isLit_8 : decode cX10_isLit 8 = .ok (.istore 4, 2) := dk_dX10_isLit_0.2.2.2.2.2.2.1
theorem dX10_isLit_10 : decode cX10_isLit 10 = .ok (.aload_n 0, 1) := dk_dX10_isLit_0.2.2.2.2.2.2.2.1
theorem dk_dX10_isLit_0_8 : dz_C cX10_isLit [(11, .iload_n 3, 1), (12, .iload 4, 2), (14, .isub, 1), (15, .putfield 469, 3), (18, .iload_n 2, 1), (19, .ifCond .ne 15, 3), (22, .iload 4, 2), (24, .iload_n 3, 1)] := dk_dX10_isLit_0.2.2.2.2.2.2.2.2
theorem dX10_isLit_11 : decode cX10_isLit 11 = .ok (.iload_n 3, 1) := dk_dX10_isLit_0_8.1
theorem dX10_isLit_12 : decode cX10_isLit 12 = .ok (.iload 4, 2) := dk_dX10_isLit_0_8.2.1
theorem dX10_isLit_14 : decode cX10_isLit 14 = .ok (.isub, 1) := dk_dX10_isLit_0_8.2.2.1
theorem dX10_isLit_15 : decode cX10_isLit 15 = .ok (.putfield 469, 3) := dk_dX10_isLit_0_8.2.2.2.1
theorem dX10_isLit_18 : decode cX10_isLit 18 = .ok (.iload_n 2, 1) := dk_dX10_isLit_0_8.2.2.2.2.1
theorem dX10_isLit_19 : decode cX10_isLit 19 = .ok (.ifCond .ne 15, 3) := dk_dX10_isLit_0_8.2.2.2.2.2.1
theorem dX10_isLit_22 : decode cX10_isLit 22 = .ok (.iload 4, 2) := dk_dX10_isLit_0_8.2.2.2.2.2.2.1
theorem dX10_isLit_24 : decode cX10_isLit 24 = .ok (.iload_n 3, 1) := dk_dX10_isLit_0_8.2.2.2.2.2.2.2.1
theorem dk_dX10_isLit_25 : dz_C cX10_isLit [(25, .if_icmp .ge 7, 3), (28, .iconst 1, 1), (29, .goto 4, 3), (32, .iconst 0, 1), (33, .ireturn, 1), (34, .iload_n 2, 1), (35, .iconst 2, 1), (36, .if_icmp .ne 40, 3), (39, .iload 4, 2), (41, .ifCond .ne 16, 3), (44, .aload_n 0, 1), (45, .aload_n 0, 1), (46, .getfield 466, 3), (49, .putfield 472, 3), (52, .aload_n 0, 1), (53, .iconst 0, 1)] := dz_of (by decide +kernel)
theorem dX10_isLit_25 : decode cX10_isLit 25 = .ok (.if_icmp .ge 7, 3) := dk_dX10_isLit_25.1
theorem dX10_isLit_28 : decode cX10_isLit 28 = .ok (.iconst 1, 1) := dk_dX10_isLit_25.2.1
theorem dX10_isLit_29 : decode cX10_isLit 29 = .ok (.goto 4, 3) := dk_dX10_isLit_25.2.2.1
theorem dX10_isLit_32 : decode cX10_isLit 32 = .ok (.iconst 0, 1) := dk_dX10_isLit_25.2.2.2.1
theorem dX10_isLit_33 : decode cX10_isLit 33 = .ok (.ireturn, 1) := dk_dX10_isLit_25.2.2.2.2.1
theorem dX10_isLit_34 : decode cX10_isLit 34 = .ok (.iload_n 2, 1) := dk_dX10_isLit_25.2.2.2.2.2.1
theorem dX10_isLit_35 : decode cX10_isLit 35 = .ok (.iconst 2, 1) := dk_dX10_isLit_25.2.2.2.2.2.2.1
theorem dX10_isLit_36 : decode cX10_isLit 36 = .ok (.if_icmp .ne 40, 3) := dk_dX10_isLit_25.2.2.2.2.2.2.2.1
theorem dk_dX10_isLit_25_8 : dz_C cX10_isLit [(39, .iload 4, 2), (41, .ifCond .ne 16, 3), (44, .aload_n 0, 1), (45, .aload_n 0, 1), (46, .getfield 466, 3), (49, .putfield 472, 3), (52, .aload_n 0, 1), (53, .iconst 0, 1)] := dk_dX10_isLit_25.2.2.2.2.2.2.2.2
theorem dX10_isLit_39 : decode cX10_isLit 39 = .ok (.iload 4, 2) := dk_dX10_isLit_25_8.1
theorem dX10_isLit_41 : decode cX10_isLit 41 = .ok (.ifCond .ne 16, 3) := dk_dX10_isLit_25_8.2.1
theorem dX10_isLit_44 : decode cX10_isLit 44 = .ok (.aload_n 0, 1) := dk_dX10_isLit_25_8.2.2.1
theorem dX10_isLit_45 : decode cX10_isLit 45 = .ok (.aload_n 0, 1) := dk_dX10_isLit_25_8.2.2.2.1
theorem dX10_isLit_46 : decode cX10_isLit 46 = .ok (.getfield 466, 3) := dk_dX10_isLit_25_8.2.2.2.2.1
theorem dX10_isLit_49 : decode cX10_isLit 49 = .ok (.putfield 472, 3) := dk_dX10_isLit_25_8.2.2.2.2.2.1
theorem dX10_isLit_52 : decode cX10_isLit 52 = .ok (.aload_n 0, 1) := dk_dX10_isLit_25_8.2.2.2.2.2.2.1
theorem dX10_isLit_53 : decode cX10_isLit 53 = .ok (.iconst 0, 1) := dk_dX10_isLit_25_8.2.2.2.2.2.2.2.1
theorem dk_dX10_isLit_54 : dz_C cX10_isLit [(54, .putfield 466, 3), (57, .aload_n 0, 1), (58, .getfield 472, 3), (61, .ifCond .eq 13, 3), (64, .iload 4, 2), (66, .iload_n 3, 1), (67, .if_icmp .ge 7, 3), (70, .iconst 1, 1), (71, .goto 4, 3), (74, .iconst 0, 1), (75, .ireturn, 1), (76, .iload_n 1, 1), (77, .aload_n 0, 1), (78, .getfield 475, 3), (81, .if_icmp .le 54, 3), (84, .aload_n 0, 1)] := dz_of (by decide +kernel)
theorem dX10_isLit_54 : decode cX10_isLit 54 = .ok (.putfield 466, 3) := dk_dX10_isLit_54.1
theorem dX10_isLit_57 : decode cX10_isLit 57 = .ok (.aload_n 0, 1) := dk_dX10_isLit_54.2.1
theorem dX10_isLit_58 : decode cX10_isLit 58 = .ok (.getfield 472, 3) := dk_dX10_isLit_54.2.2.1
theorem dX10_isLit_61 : decode cX10_isLit 61 = .ok (.ifCond .eq 13, 3) := dk_dX10_isLit_54.2.2.2.1
theorem dX10_isLit_64 : decode cX10_isLit 64 = .ok (.iload 4, 2) := dk_dX10_isLit_54.2.2.2.2.1
theorem dX10_isLit_66 : decode cX10_isLit 66 = .ok (.iload_n 3, 1) := dk_dX10_isLit_54.2.2.2.2.2.1
theorem dX10_isLit_67 : decode cX10_isLit 67 = .ok (.if_icmp .ge 7, 3) := dk_dX10_isLit_54.2.2.2.2.2.2.1
theorem dX10_isLit_70 : decode cX10_isLit 70 = .ok (.iconst 1, 1) := dk_dX10_isLit_54.2.2.2.2.2.2.2.1
theorem dk_dX10_isLit_54_8 : dz_C cX10_isLit [(71, .goto 4, 3), (74, .iconst 0, 1), (75, .ireturn, 1), (76, .iload_n 1, 1), (77, .aload_n 0, 1), (78, .getfield 475, 3), (81, .if_icmp .le 54, 3), (84, .aload_n 0, 1)] := dk_dX10_isLit_54.2.2.2.2.2.2.2.2
theorem dX10_isLit_71 : decode cX10_isLit 71 = .ok (.goto 4, 3) := dk_dX10_isLit_54_8.1
theorem dX10_isLit_74 : decode cX10_isLit 74 = .ok (.iconst 0, 1) := dk_dX10_isLit_54_8.2.1
theorem dX10_isLit_75 : decode cX10_isLit 75 = .ok (.ireturn, 1) := dk_dX10_isLit_54_8.2.2.1
theorem dX10_isLit_76 : decode cX10_isLit 76 = .ok (.iload_n 1, 1) := dk_dX10_isLit_54_8.2.2.2.1
theorem dX10_isLit_77 : decode cX10_isLit 77 = .ok (.aload_n 0, 1) := dk_dX10_isLit_54_8.2.2.2.2.1
theorem dX10_isLit_78 : decode cX10_isLit 78 = .ok (.getfield 475, 3) := dk_dX10_isLit_54_8.2.2.2.2.2.1
theorem dX10_isLit_81 : decode cX10_isLit 81 = .ok (.if_icmp .le 54, 3) := dk_dX10_isLit_54_8.2.2.2.2.2.2.1
theorem dX10_isLit_84 : decode cX10_isLit 84 = .ok (.aload_n 0, 1) := dk_dX10_isLit_54_8.2.2.2.2.2.2.2.1
theorem dk_dX10_isLit_85 : dz_C cX10_isLit [(85, .getfield 466, 3), (88, .ifCond .eq 47, 3), (91, .aload_n 0, 1), (92, .getfield 478, 3), (95, .iconst (-1), 1), (96, .if_icmp .ne 7, 3), (99, .iload_n 1, 1), (100, .goto 11, 3), (103, .iload_n 1, 1), (104, .aload_n 0, 1), (105, .getfield 478, 3), (108, .isub, 1), (109, .iconst 1, 1), (110, .isub, 1), (111, .aload_n 0, 1), (112, .getfield 118, 3)] := dz_of (by decide +kernel)
theorem dX10_isLit_85 : decode cX10_isLit 85 = .ok (.getfield 466, 3) := dk_dX10_isLit_85.1
theorem dX10_isLit_88 : decode cX10_isLit 88 = .ok (.ifCond .eq 47, 3) := dk_dX10_isLit_85.2.1
theorem dX10_isLit_91 : decode cX10_isLit 91 = .ok (.aload_n 0, 1) := dk_dX10_isLit_85.2.2.1
theorem dX10_isLit_92 : decode cX10_isLit 92 = .ok (.getfield 478, 3) := dk_dX10_isLit_85.2.2.2.1
theorem dX10_isLit_95 : decode cX10_isLit 95 = .ok (.iconst (-1), 1) := dk_dX10_isLit_85.2.2.2.2.1
theorem dX10_isLit_96 : decode cX10_isLit 96 = .ok (.if_icmp .ne 7, 3) := dk_dX10_isLit_85.2.2.2.2.2.1
theorem dX10_isLit_99 : decode cX10_isLit 99 = .ok (.iload_n 1, 1) := dk_dX10_isLit_85.2.2.2.2.2.2.1
theorem dX10_isLit_100 : decode cX10_isLit 100 = .ok (.goto 11, 3) := dk_dX10_isLit_85.2.2.2.2.2.2.2.1
theorem dk_dX10_isLit_85_8 : dz_C cX10_isLit [(103, .iload_n 1, 1), (104, .aload_n 0, 1), (105, .getfield 478, 3), (108, .isub, 1), (109, .iconst 1, 1), (110, .isub, 1), (111, .aload_n 0, 1), (112, .getfield 118, 3)] := dk_dX10_isLit_85.2.2.2.2.2.2.2.2
theorem dX10_isLit_103 : decode cX10_isLit 103 = .ok (.iload_n 1, 1) := dk_dX10_isLit_85_8.1
theorem dX10_isLit_104 : decode cX10_isLit 104 = .ok (.aload_n 0, 1) := dk_dX10_isLit_85_8.2.1
theorem dX10_isLit_105 : decode cX10_isLit 105 = .ok (.getfield 478, 3) := dk_dX10_isLit_85_8.2.2.1
theorem dX10_isLit_108 : decode cX10_isLit 108 = .ok (.isub, 1) := dk_dX10_isLit_85_8.2.2.2.1
theorem dX10_isLit_109 : decode cX10_isLit 109 = .ok (.iconst 1, 1) := dk_dX10_isLit_85_8.2.2.2.2.1
theorem dX10_isLit_110 : decode cX10_isLit 110 = .ok (.isub, 1) := dk_dX10_isLit_85_8.2.2.2.2.2.1
theorem dX10_isLit_111 : decode cX10_isLit 111 = .ok (.aload_n 0, 1) := dk_dX10_isLit_85_8.2.2.2.2.2.2.1
theorem dX10_isLit_112 : decode cX10_isLit 112 = .ok (.getfield 118, 3) := dk_dX10_isLit_85_8.2.2.2.2.2.2.2.1
theorem dk_dX10_isLit_115 : dz_C cX10_isLit [(115, .bipush 7, 2), (117, .iaload, 1), (118, .if_icmp .lt 17, 3), (121, .aload_n 0, 1), (122, .iload_n 1, 1), (123, .iload_n 3, 1), (124, .iadd, 1), (125, .iconst 1, 1), (126, .isub, 1), (127, .putfield 475, 3), (130, .aload_n 0, 1), (131, .iconst 0, 1), (132, .putfield 466, 3), (135, .aload_n 0, 1), (136, .aload_n 0, 1), (137, .getfield 475, 3)] := dz_of (by decide +kernel)
theorem dX10_isLit_115 : decode cX10_isLit 115 = .ok (.bipush 7, 2) := dk_dX10_isLit_115.1
theorem dX10_isLit_117 : decode cX10_isLit 117 = .ok (.iaload, 1) := dk_dX10_isLit_115.2.1
theorem dX10_isLit_118 : decode cX10_isLit 118 = .ok (.if_icmp .lt 17, 3) := dk_dX10_isLit_115.2.2.1
theorem dX10_isLit_121 : decode cX10_isLit 121 = .ok (.aload_n 0, 1) := dk_dX10_isLit_115.2.2.2.1
theorem dX10_isLit_122 : decode cX10_isLit 122 = .ok (.iload_n 1, 1) := dk_dX10_isLit_115.2.2.2.2.1
theorem dX10_isLit_123 : decode cX10_isLit 123 = .ok (.iload_n 3, 1) := dk_dX10_isLit_115.2.2.2.2.2.1
theorem dX10_isLit_124 : decode cX10_isLit 124 = .ok (.iadd, 1) := dk_dX10_isLit_115.2.2.2.2.2.2.1
theorem dX10_isLit_125 : decode cX10_isLit 125 = .ok (.iconst 1, 1) := dk_dX10_isLit_115.2.2.2.2.2.2.2.1
theorem dk_dX10_isLit_115_8 : dz_C cX10_isLit [(126, .isub, 1), (127, .putfield 475, 3), (130, .aload_n 0, 1), (131, .iconst 0, 1), (132, .putfield 466, 3), (135, .aload_n 0, 1), (136, .aload_n 0, 1), (137, .getfield 475, 3)] := dk_dX10_isLit_115.2.2.2.2.2.2.2.2
theorem dX10_isLit_126 : decode cX10_isLit 126 = .ok (.isub, 1) := dk_dX10_isLit_115_8.1
theorem dX10_isLit_127 : decode cX10_isLit 127 = .ok (.putfield 475, 3) := dk_dX10_isLit_115_8.2.1
theorem dX10_isLit_130 : decode cX10_isLit 130 = .ok (.aload_n 0, 1) := dk_dX10_isLit_115_8.2.2.1
theorem dX10_isLit_131 : decode cX10_isLit 131 = .ok (.iconst 0, 1) := dk_dX10_isLit_115_8.2.2.2.1
theorem dX10_isLit_132 : decode cX10_isLit 132 = .ok (.putfield 466, 3) := dk_dX10_isLit_115_8.2.2.2.2.1
theorem dX10_isLit_135 : decode cX10_isLit 135 = .ok (.aload_n 0, 1) := dk_dX10_isLit_115_8.2.2.2.2.2.1
theorem dX10_isLit_136 : decode cX10_isLit 136 = .ok (.aload_n 0, 1) := dk_dX10_isLit_115_8.2.2.2.2.2.2.1
theorem dX10_isLit_137 : decode cX10_isLit 137 = .ok (.getfield 475, 3) := dk_dX10_isLit_115_8.2.2.2.2.2.2.2.1
theorem dk_dX10_isLit_140 : dz_C cX10_isLit [(140, .iload_n 1, 1), (141, .isub, 1), (142, .iconst 1, 1), (143, .iadd, 1), (144, .putfield 469, 3), (147, .iload_n 1, 1), (148, .aload_n 0, 1), (149, .getfield 475, 3), (152, .if_icmp .le 5, 3), (155, .iconst 0, 1), (156, .ireturn, 1), (157, .aload_n 0, 1), (158, .iload_n 1, 1), (159, .putfield 478, 3), (162, .iconst 1, 1), (163, .ireturn, 1)] := dz_of (by decide +kernel)
theorem dX10_isLit_140 : decode cX10_isLit 140 = .ok (.iload_n 1, 1) := dk_dX10_isLit_140.1
theorem dX10_isLit_141 : decode cX10_isLit 141 = .ok (.isub, 1) := dk_dX10_isLit_140.2.1
theorem dX10_isLit_142 : decode cX10_isLit 142 = .ok (.iconst 1, 1) := dk_dX10_isLit_140.2.2.1
theorem dX10_isLit_143 : decode cX10_isLit 143 = .ok (.iadd, 1) := dk_dX10_isLit_140.2.2.2.1
theorem dX10_isLit_144 : decode cX10_isLit 144 = .ok (.putfield 469, 3) := dk_dX10_isLit_140.2.2.2.2.1
theorem dX10_isLit_147 : decode cX10_isLit 147 = .ok (.iload_n 1, 1) := dk_dX10_isLit_140.2.2.2.2.2.1
theorem dX10_isLit_148 : decode cX10_isLit 148 = .ok (.aload_n 0, 1) := dk_dX10_isLit_140.2.2.2.2.2.2.1
theorem dX10_isLit_149 : decode cX10_isLit 149 = .ok (.getfield 475, 3) := dk_dX10_isLit_140.2.2.2.2.2.2.2.1
theorem dk_dX10_isLit_140_8 : dz_C cX10_isLit [(152, .if_icmp .le 5, 3), (155, .iconst 0, 1), (156, .ireturn, 1), (157, .aload_n 0, 1), (158, .iload_n 1, 1), (159, .putfield 478, 3), (162, .iconst 1, 1), (163, .ireturn, 1)] := dk_dX10_isLit_140.2.2.2.2.2.2.2.2
theorem dX10_isLit_152 : decode cX10_isLit 152 = .ok (.if_icmp .le 5, 3) := dk_dX10_isLit_140_8.1
theorem dX10_isLit_155 : decode cX10_isLit 155 = .ok (.iconst 0, 1) := dk_dX10_isLit_140_8.2.1
theorem dX10_isLit_156 : decode cX10_isLit 156 = .ok (.ireturn, 1) := dk_dX10_isLit_140_8.2.2.1
theorem dX10_isLit_157 : decode cX10_isLit 157 = .ok (.aload_n 0, 1) := dk_dX10_isLit_140_8.2.2.2.1
theorem dX10_isLit_158 : decode cX10_isLit 158 = .ok (.iload_n 1, 1) := dk_dX10_isLit_140_8.2.2.2.2.1
theorem dX10_isLit_159 : decode cX10_isLit 159 = .ok (.putfield 478, 3) := dk_dX10_isLit_140_8.2.2.2.2.2.1
theorem dX10_isLit_162 : decode cX10_isLit 162 = .ok (.iconst 1, 1) := dk_dX10_isLit_140_8.2.2.2.2.2.2.1
theorem dX10_isLit_163 : decode cX10_isLit 163 = .ok (.ireturn, 1) := dk_dX10_isLit_140_8.2.2.2.2.2.2.2.1
theorem dk_dX10_isOwnHere_0 : dz_C cX10_isOwnHere [(0, .aload_n 0, 1), (1, .aload_n 0, 1), (2, .getfield 20, 3), (5, .invokevirtual 302, 3), (8, .ifCond .ne 58, 3), (11, .aload_n 0, 1), (12, .aload_n 0, 1), (13, .getfield 24, 3), (16, .invokevirtual 302, 3), (19, .ifCond .ne 47, 3), (22, .aload_n 0, 1), (23, .aload_n 0, 1), (24, .getfield 27, 3), (27, .invokevirtual 302, 3), (30, .ifCond .ne 36, 3), (33, .aload_n 0, 1)] := dz_of (by decide +kernel)
theorem dX10_isOwnHere_0 : decode cX10_isOwnHere 0 = .ok (.aload_n 0, 1) := dk_dX10_isOwnHere_0.1
theorem dX10_isOwnHere_1 : decode cX10_isOwnHere 1 = .ok (.aload_n 0, 1) := dk_dX10_isOwnHere_0.2.1
theorem dX10_isOwnHere_2 : decode cX10_isOwnHere 2 = .ok (.getfield 20, 3) := dk_dX10_isOwnHere_0.2.2.1
theorem dX10_isOwnHere_5 : decode cX10_isOwnHere 5 = .ok (.invokevirtual 302, 3) := dk_dX10_isOwnHere_0.2.2.2.1
theorem dX10_isOwnHere_8 : decode cX10_isOwnHere 8 = .ok (.ifCond .ne 58, 3) := dk_dX10_isOwnHere_0.2.2.2.2.1
theorem dX10_isOwnHere_11 : decode cX10_isOwnHere 11 = .ok (.aload_n 0, 1) := dk_dX10_isOwnHere_0.2.2.2.2.2.1
theorem dX10_isOwnHere_12 : decode cX10_isOwnHere 12 = .ok (.aload_n 0, 1) := dk_dX10_isOwnHere_0.2.2.2.2.2.2.1
theorem dX10_isOwnHere_13 : decode cX10_isOwnHere 13 = .ok (.getfield 24, 3) := dk_dX10_isOwnHere_0.2.2.2.2.2.2.2.1
theorem dk_dX10_isOwnHere_0_8 : dz_C cX10_isOwnHere [(16, .invokevirtual 302, 3), (19, .ifCond .ne 47, 3), (22, .aload_n 0, 1), (23, .aload_n 0, 1), (24, .getfield 27, 3), (27, .invokevirtual 302, 3), (30, .ifCond .ne 36, 3), (33, .aload_n 0, 1)] := dk_dX10_isOwnHere_0.2.2.2.2.2.2.2.2
theorem dX10_isOwnHere_16 : decode cX10_isOwnHere 16 = .ok (.invokevirtual 302, 3) := dk_dX10_isOwnHere_0_8.1
theorem dX10_isOwnHere_19 : decode cX10_isOwnHere 19 = .ok (.ifCond .ne 47, 3) := dk_dX10_isOwnHere_0_8.2.1
theorem dX10_isOwnHere_22 : decode cX10_isOwnHere 22 = .ok (.aload_n 0, 1) := dk_dX10_isOwnHere_0_8.2.2.1
theorem dX10_isOwnHere_23 : decode cX10_isOwnHere 23 = .ok (.aload_n 0, 1) := dk_dX10_isOwnHere_0_8.2.2.2.1
theorem dX10_isOwnHere_24 : decode cX10_isOwnHere 24 = .ok (.getfield 27, 3) := dk_dX10_isOwnHere_0_8.2.2.2.2.1
theorem dX10_isOwnHere_27 : decode cX10_isOwnHere 27 = .ok (.invokevirtual 302, 3) := dk_dX10_isOwnHere_0_8.2.2.2.2.2.1
theorem dX10_isOwnHere_30 : decode cX10_isOwnHere 30 = .ok (.ifCond .ne 36, 3) := dk_dX10_isOwnHere_0_8.2.2.2.2.2.2.1
theorem dX10_isOwnHere_33 : decode cX10_isOwnHere 33 = .ok (.aload_n 0, 1) := dk_dX10_isOwnHere_0_8.2.2.2.2.2.2.2.1
theorem dk_dX10_isOwnHere_34 : dz_C cX10_isOwnHere [(34, .aload_n 0, 1), (35, .getfield 30, 3), (38, .invokevirtual 302, 3), (41, .ifCond .ne 25, 3), (44, .aload_n 0, 1), (45, .aload_n 0, 1), (46, .getfield 33, 3), (49, .invokevirtual 302, 3), (52, .ifCond .ne 14, 3), (55, .aload_n 0, 1), (56, .aload_n 0, 1), (57, .getfield 36, 3), (60, .invokevirtual 302, 3), (63, .ifCond .eq 7, 3), (66, .iconst 1, 1), (67, .goto 4, 3)] := dz_of (by decide +kernel)
theorem dX10_isOwnHere_34 : decode cX10_isOwnHere 34 = .ok (.aload_n 0, 1) := dk_dX10_isOwnHere_34.1
theorem dX10_isOwnHere_35 : decode cX10_isOwnHere 35 = .ok (.getfield 30, 3) := dk_dX10_isOwnHere_34.2.1
theorem dX10_isOwnHere_38 : decode cX10_isOwnHere 38 = .ok (.invokevirtual 302, 3) := dk_dX10_isOwnHere_34.2.2.1
theorem dX10_isOwnHere_41 : decode cX10_isOwnHere 41 = .ok (.ifCond .ne 25, 3) := dk_dX10_isOwnHere_34.2.2.2.1
theorem dX10_isOwnHere_44 : decode cX10_isOwnHere 44 = .ok (.aload_n 0, 1) := dk_dX10_isOwnHere_34.2.2.2.2.1
theorem dX10_isOwnHere_45 : decode cX10_isOwnHere 45 = .ok (.aload_n 0, 1) := dk_dX10_isOwnHere_34.2.2.2.2.2.1
theorem dX10_isOwnHere_46 : decode cX10_isOwnHere 46 = .ok (.getfield 33, 3) := dk_dX10_isOwnHere_34.2.2.2.2.2.2.1
theorem dX10_isOwnHere_49 : decode cX10_isOwnHere 49 = .ok (.invokevirtual 302, 3) := dk_dX10_isOwnHere_34.2.2.2.2.2.2.2.1
theorem dk_dX10_isOwnHere_34_8 : dz_C cX10_isOwnHere [(52, .ifCond .ne 14, 3), (55, .aload_n 0, 1), (56, .aload_n 0, 1), (57, .getfield 36, 3), (60, .invokevirtual 302, 3), (63, .ifCond .eq 7, 3), (66, .iconst 1, 1), (67, .goto 4, 3)] := dk_dX10_isOwnHere_34.2.2.2.2.2.2.2.2
theorem dX10_isOwnHere_52 : decode cX10_isOwnHere 52 = .ok (.ifCond .ne 14, 3) := dk_dX10_isOwnHere_34_8.1
theorem dX10_isOwnHere_55 : decode cX10_isOwnHere 55 = .ok (.aload_n 0, 1) := dk_dX10_isOwnHere_34_8.2.1
theorem dX10_isOwnHere_56 : decode cX10_isOwnHere 56 = .ok (.aload_n 0, 1) := dk_dX10_isOwnHere_34_8.2.2.1
theorem dX10_isOwnHere_57 : decode cX10_isOwnHere 57 = .ok (.getfield 36, 3) := dk_dX10_isOwnHere_34_8.2.2.2.1
theorem dX10_isOwnHere_60 : decode cX10_isOwnHere 60 = .ok (.invokevirtual 302, 3) := dk_dX10_isOwnHere_34_8.2.2.2.2.1
theorem dX10_isOwnHere_63 : decode cX10_isOwnHere 63 = .ok (.ifCond .eq 7, 3) := dk_dX10_isOwnHere_34_8.2.2.2.2.2.1
theorem dX10_isOwnHere_66 : decode cX10_isOwnHere 66 = .ok (.iconst 1, 1) := dk_dX10_isOwnHere_34_8.2.2.2.2.2.2.1
theorem dX10_isOwnHere_67 : decode cX10_isOwnHere 67 = .ok (.goto 4, 3) := dk_dX10_isOwnHere_34_8.2.2.2.2.2.2.2.1
theorem dk_dX10_isOwnHere_70 : dz_C cX10_isOwnHere [(70, .iconst 0, 1), (71, .istore_n 1, 1), (72, .iload_n 1, 1), (73, .ifCond .ne 69, 3), (76, .aload_n 0, 1), (77, .aload_n 0, 1), (78, .getfield 39, 3), (81, .invokevirtual 302, 3), (84, .ifCond .ne 58, 3), (87, .aload_n 0, 1), (88, .aload_n 0, 1), (89, .getfield 42, 3), (92, .invokevirtual 302, 3), (95, .ifCond .ne 47, 3), (98, .aload_n 0, 1), (99, .aload_n 0, 1)] := dz_of (by decide +kernel)
theorem dX10_isOwnHere_70 : decode cX10_isOwnHere 70 = .ok (.iconst 0, 1) := dk_dX10_isOwnHere_70.1
theorem dX10_isOwnHere_71 : decode cX10_isOwnHere 71 = .ok (.istore_n 1, 1) := dk_dX10_isOwnHere_70.2.1
theorem dX10_isOwnHere_72 : decode cX10_isOwnHere 72 = .ok (.iload_n 1, 1) := dk_dX10_isOwnHere_70.2.2.1
theorem dX10_isOwnHere_73 : decode cX10_isOwnHere 73 = .ok (.ifCond .ne 69, 3) := dk_dX10_isOwnHere_70.2.2.2.1
theorem dX10_isOwnHere_76 : decode cX10_isOwnHere 76 = .ok (.aload_n 0, 1) := dk_dX10_isOwnHere_70.2.2.2.2.1
theorem dX10_isOwnHere_77 : decode cX10_isOwnHere 77 = .ok (.aload_n 0, 1) := dk_dX10_isOwnHere_70.2.2.2.2.2.1
theorem dX10_isOwnHere_78 : decode cX10_isOwnHere 78 = .ok (.getfield 39, 3) := dk_dX10_isOwnHere_70.2.2.2.2.2.2.1
theorem dX10_isOwnHere_81 : decode cX10_isOwnHere 81 = .ok (.invokevirtual 302, 3) := dk_dX10_isOwnHere_70.2.2.2.2.2.2.2.1
theorem dk_dX10_isOwnHere_70_8 : dz_C cX10_isOwnHere [(84, .ifCond .ne 58, 3), (87, .aload_n 0, 1), (88, .aload_n 0, 1), (89, .getfield 42, 3), (92, .invokevirtual 302, 3), (95, .ifCond .ne 47, 3), (98, .aload_n 0, 1), (99, .aload_n 0, 1)] := dk_dX10_isOwnHere_70.2.2.2.2.2.2.2.2
theorem dX10_isOwnHere_84 : decode cX10_isOwnHere 84 = .ok (.ifCond .ne 58, 3) := dk_dX10_isOwnHere_70_8.1
theorem dX10_isOwnHere_87 : decode cX10_isOwnHere 87 = .ok (.aload_n 0, 1) := dk_dX10_isOwnHere_70_8.2.1
theorem dX10_isOwnHere_88 : decode cX10_isOwnHere 88 = .ok (.aload_n 0, 1) := dk_dX10_isOwnHere_70_8.2.2.1
theorem dX10_isOwnHere_89 : decode cX10_isOwnHere 89 = .ok (.getfield 42, 3) := dk_dX10_isOwnHere_70_8.2.2.2.1
theorem dX10_isOwnHere_92 : decode cX10_isOwnHere 92 = .ok (.invokevirtual 302, 3) := dk_dX10_isOwnHere_70_8.2.2.2.2.1
theorem dX10_isOwnHere_95 : decode cX10_isOwnHere 95 = .ok (.ifCond .ne 47, 3) := dk_dX10_isOwnHere_70_8.2.2.2.2.2.1
theorem dX10_isOwnHere_98 : decode cX10_isOwnHere 98 = .ok (.aload_n 0, 1) := dk_dX10_isOwnHere_70_8.2.2.2.2.2.2.1
theorem dX10_isOwnHere_99 : decode cX10_isOwnHere 99 = .ok (.aload_n 0, 1) := dk_dX10_isOwnHere_70_8.2.2.2.2.2.2.2.1
theorem dk_dX10_isOwnHere_100 : dz_C cX10_isOwnHere [(100, .getfield 45, 3), (103, .invokevirtual 302, 3), (106, .ifCond .ne 36, 3), (109, .aload_n 0, 1), (110, .aload_n 0, 1), (111, .getfield 48, 3), (114, .invokevirtual 302, 3), (117, .ifCond .ne 25, 3), (120, .aload_n 0, 1), (121, .aload_n 0, 1), (122, .getfield 51, 3), (125, .invokevirtual 302, 3), (128, .ifCond .ne 14, 3), (131, .aload_n 0, 1), (132, .aload_n 0, 1), (133, .getfield 54, 3)] := dz_of (by decide +kernel)
theorem dX10_isOwnHere_100 : decode cX10_isOwnHere 100 = .ok (.getfield 45, 3) := dk_dX10_isOwnHere_100.1
theorem dX10_isOwnHere_103 : decode cX10_isOwnHere 103 = .ok (.invokevirtual 302, 3) := dk_dX10_isOwnHere_100.2.1
theorem dX10_isOwnHere_106 : decode cX10_isOwnHere 106 = .ok (.ifCond .ne 36, 3) := dk_dX10_isOwnHere_100.2.2.1
theorem dX10_isOwnHere_109 : decode cX10_isOwnHere 109 = .ok (.aload_n 0, 1) := dk_dX10_isOwnHere_100.2.2.2.1
theorem dX10_isOwnHere_110 : decode cX10_isOwnHere 110 = .ok (.aload_n 0, 1) := dk_dX10_isOwnHere_100.2.2.2.2.1
theorem dX10_isOwnHere_111 : decode cX10_isOwnHere 111 = .ok (.getfield 48, 3) := dk_dX10_isOwnHere_100.2.2.2.2.2.1
theorem dX10_isOwnHere_114 : decode cX10_isOwnHere 114 = .ok (.invokevirtual 302, 3) := dk_dX10_isOwnHere_100.2.2.2.2.2.2.1
theorem dX10_isOwnHere_117 : decode cX10_isOwnHere 117 = .ok (.ifCond .ne 25, 3) := dk_dX10_isOwnHere_100.2.2.2.2.2.2.2.1
theorem dk_dX10_isOwnHere_100_8 : dz_C cX10_isOwnHere [(120, .aload_n 0, 1), (121, .aload_n 0, 1), (122, .getfield 51, 3), (125, .invokevirtual 302, 3), (128, .ifCond .ne 14, 3), (131, .aload_n 0, 1), (132, .aload_n 0, 1), (133, .getfield 54, 3)] := dk_dX10_isOwnHere_100.2.2.2.2.2.2.2.2
theorem dX10_isOwnHere_120 : decode cX10_isOwnHere 120 = .ok (.aload_n 0, 1) := dk_dX10_isOwnHere_100_8.1
theorem dX10_isOwnHere_121 : decode cX10_isOwnHere 121 = .ok (.aload_n 0, 1) := dk_dX10_isOwnHere_100_8.2.1
theorem dX10_isOwnHere_122 : decode cX10_isOwnHere 122 = .ok (.getfield 51, 3) := dk_dX10_isOwnHere_100_8.2.2.1
theorem dX10_isOwnHere_125 : decode cX10_isOwnHere 125 = .ok (.invokevirtual 302, 3) := dk_dX10_isOwnHere_100_8.2.2.2.1
theorem dX10_isOwnHere_128 : decode cX10_isOwnHere 128 = .ok (.ifCond .ne 14, 3) := dk_dX10_isOwnHere_100_8.2.2.2.2.1
theorem dX10_isOwnHere_131 : decode cX10_isOwnHere 131 = .ok (.aload_n 0, 1) := dk_dX10_isOwnHere_100_8.2.2.2.2.2.1
theorem dX10_isOwnHere_132 : decode cX10_isOwnHere 132 = .ok (.aload_n 0, 1) := dk_dX10_isOwnHere_100_8.2.2.2.2.2.2.1
theorem dX10_isOwnHere_133 : decode cX10_isOwnHere 133 = .ok (.getfield 54, 3) := dk_dX10_isOwnHere_100_8.2.2.2.2.2.2.2.1
theorem dk_dX10_isOwnHere_136 : dz_C cX10_isOwnHere [(136, .invokevirtual 302, 3), (139, .ifCond .eq 7, 3), (142, .iconst 1, 1), (143, .goto 4, 3), (146, .iconst 0, 1), (147, .istore_n 1, 1), (148, .iload_n 1, 1), (149, .ifCond .ne 69, 3), (152, .aload_n 0, 1), (153, .aload_n 0, 1), (154, .getfield 57, 3), (157, .invokevirtual 302, 3), (160, .ifCond .ne 58, 3), (163, .aload_n 0, 1), (164, .aload_n 0, 1), (165, .getfield 60, 3)] := dz_of (by decide +kernel)
theorem dX10_isOwnHere_136 : decode cX10_isOwnHere 136 = .ok (.invokevirtual 302, 3) := dk_dX10_isOwnHere_136.1
theorem dX10_isOwnHere_139 : decode cX10_isOwnHere 139 = .ok (.ifCond .eq 7, 3) := dk_dX10_isOwnHere_136.2.1
theorem dX10_isOwnHere_142 : decode cX10_isOwnHere 142 = .ok (.iconst 1, 1) := dk_dX10_isOwnHere_136.2.2.1
theorem dX10_isOwnHere_143 : decode cX10_isOwnHere 143 = .ok (.goto 4, 3) := dk_dX10_isOwnHere_136.2.2.2.1
theorem dX10_isOwnHere_146 : decode cX10_isOwnHere 146 = .ok (.iconst 0, 1) := dk_dX10_isOwnHere_136.2.2.2.2.1
theorem dX10_isOwnHere_147 : decode cX10_isOwnHere 147 = .ok (.istore_n 1, 1) := dk_dX10_isOwnHere_136.2.2.2.2.2.1
theorem dX10_isOwnHere_148 : decode cX10_isOwnHere 148 = .ok (.iload_n 1, 1) := dk_dX10_isOwnHere_136.2.2.2.2.2.2.1
theorem dX10_isOwnHere_149 : decode cX10_isOwnHere 149 = .ok (.ifCond .ne 69, 3) := dk_dX10_isOwnHere_136.2.2.2.2.2.2.2.1
theorem dk_dX10_isOwnHere_136_8 : dz_C cX10_isOwnHere [(152, .aload_n 0, 1), (153, .aload_n 0, 1), (154, .getfield 57, 3), (157, .invokevirtual 302, 3), (160, .ifCond .ne 58, 3), (163, .aload_n 0, 1), (164, .aload_n 0, 1), (165, .getfield 60, 3)] := dk_dX10_isOwnHere_136.2.2.2.2.2.2.2.2
theorem dX10_isOwnHere_152 : decode cX10_isOwnHere 152 = .ok (.aload_n 0, 1) := dk_dX10_isOwnHere_136_8.1
theorem dX10_isOwnHere_153 : decode cX10_isOwnHere 153 = .ok (.aload_n 0, 1) := dk_dX10_isOwnHere_136_8.2.1
theorem dX10_isOwnHere_154 : decode cX10_isOwnHere 154 = .ok (.getfield 57, 3) := dk_dX10_isOwnHere_136_8.2.2.1
theorem dX10_isOwnHere_157 : decode cX10_isOwnHere 157 = .ok (.invokevirtual 302, 3) := dk_dX10_isOwnHere_136_8.2.2.2.1
theorem dX10_isOwnHere_160 : decode cX10_isOwnHere 160 = .ok (.ifCond .ne 58, 3) := dk_dX10_isOwnHere_136_8.2.2.2.2.1
theorem dX10_isOwnHere_163 : decode cX10_isOwnHere 163 = .ok (.aload_n 0, 1) := dk_dX10_isOwnHere_136_8.2.2.2.2.2.1
theorem dX10_isOwnHere_164 : decode cX10_isOwnHere 164 = .ok (.aload_n 0, 1) := dk_dX10_isOwnHere_136_8.2.2.2.2.2.2.1
theorem dX10_isOwnHere_165 : decode cX10_isOwnHere 165 = .ok (.getfield 60, 3) := dk_dX10_isOwnHere_136_8.2.2.2.2.2.2.2.1
theorem dk_dX10_isOwnHere_168 : dz_C cX10_isOwnHere [(168, .invokevirtual 302, 3), (171, .ifCond .ne 47, 3), (174, .aload_n 0, 1), (175, .aload_n 0, 1), (176, .getfield 63, 3), (179, .invokevirtual 302, 3), (182, .ifCond .ne 36, 3), (185, .aload_n 0, 1), (186, .aload_n 0, 1), (187, .getfield 66, 3), (190, .invokevirtual 302, 3), (193, .ifCond .ne 25, 3), (196, .aload_n 0, 1), (197, .aload_n 0, 1), (198, .getfield 69, 3), (201, .invokevirtual 302, 3)] := dz_of (by decide +kernel)
theorem dX10_isOwnHere_168 : decode cX10_isOwnHere 168 = .ok (.invokevirtual 302, 3) := dk_dX10_isOwnHere_168.1
theorem dX10_isOwnHere_171 : decode cX10_isOwnHere 171 = .ok (.ifCond .ne 47, 3) := dk_dX10_isOwnHere_168.2.1
theorem dX10_isOwnHere_174 : decode cX10_isOwnHere 174 = .ok (.aload_n 0, 1) := dk_dX10_isOwnHere_168.2.2.1
theorem dX10_isOwnHere_175 : decode cX10_isOwnHere 175 = .ok (.aload_n 0, 1) := dk_dX10_isOwnHere_168.2.2.2.1
theorem dX10_isOwnHere_176 : decode cX10_isOwnHere 176 = .ok (.getfield 63, 3) := dk_dX10_isOwnHere_168.2.2.2.2.1
theorem dX10_isOwnHere_179 : decode cX10_isOwnHere 179 = .ok (.invokevirtual 302, 3) := dk_dX10_isOwnHere_168.2.2.2.2.2.1
theorem dX10_isOwnHere_182 : decode cX10_isOwnHere 182 = .ok (.ifCond .ne 36, 3) := dk_dX10_isOwnHere_168.2.2.2.2.2.2.1
theorem dX10_isOwnHere_185 : decode cX10_isOwnHere 185 = .ok (.aload_n 0, 1) := dk_dX10_isOwnHere_168.2.2.2.2.2.2.2.1
theorem dk_dX10_isOwnHere_168_8 : dz_C cX10_isOwnHere [(186, .aload_n 0, 1), (187, .getfield 66, 3), (190, .invokevirtual 302, 3), (193, .ifCond .ne 25, 3), (196, .aload_n 0, 1), (197, .aload_n 0, 1), (198, .getfield 69, 3), (201, .invokevirtual 302, 3)] := dk_dX10_isOwnHere_168.2.2.2.2.2.2.2.2
theorem dX10_isOwnHere_186 : decode cX10_isOwnHere 186 = .ok (.aload_n 0, 1) := dk_dX10_isOwnHere_168_8.1
theorem dX10_isOwnHere_187 : decode cX10_isOwnHere 187 = .ok (.getfield 66, 3) := dk_dX10_isOwnHere_168_8.2.1
theorem dX10_isOwnHere_190 : decode cX10_isOwnHere 190 = .ok (.invokevirtual 302, 3) := dk_dX10_isOwnHere_168_8.2.2.1
theorem dX10_isOwnHere_193 : decode cX10_isOwnHere 193 = .ok (.ifCond .ne 25, 3) := dk_dX10_isOwnHere_168_8.2.2.2.1
theorem dX10_isOwnHere_196 : decode cX10_isOwnHere 196 = .ok (.aload_n 0, 1) := dk_dX10_isOwnHere_168_8.2.2.2.2.1
theorem dX10_isOwnHere_197 : decode cX10_isOwnHere 197 = .ok (.aload_n 0, 1) := dk_dX10_isOwnHere_168_8.2.2.2.2.2.1
theorem dX10_isOwnHere_198 : decode cX10_isOwnHere 198 = .ok (.getfield 69, 3) := dk_dX10_isOwnHere_168_8.2.2.2.2.2.2.1
theorem dX10_isOwnHere_201 : decode cX10_isOwnHere 201 = .ok (.invokevirtual 302, 3) := dk_dX10_isOwnHere_168_8.2.2.2.2.2.2.2.1
theorem dk_dX10_isOwnHere_204 : dz_C cX10_isOwnHere [(204, .ifCond .ne 14, 3), (207, .aload_n 0, 1), (208, .aload_n 0, 1), (209, .getfield 72, 3), (212, .invokevirtual 302, 3), (215, .ifCond .eq 7, 3), (218, .iconst 1, 1), (219, .goto 4, 3), (222, .iconst 0, 1), (223, .istore_n 1, 1), (224, .iload_n 1, 1), (225, .ifCond .ne 69, 3), (228, .aload_n 0, 1), (229, .aload_n 0, 1), (230, .getfield 75, 3), (233, .invokevirtual 302, 3)] := dz_of (by decide +kernel)
theorem dX10_isOwnHere_204 : decode cX10_isOwnHere 204 = .ok (.ifCond .ne 14, 3) := dk_dX10_isOwnHere_204.1
theorem dX10_isOwnHere_207 : decode cX10_isOwnHere 207 = .ok (.aload_n 0, 1) := dk_dX10_isOwnHere_204.2.1
theorem dX10_isOwnHere_208 : decode cX10_isOwnHere 208 = .ok (.aload_n 0, 1) := dk_dX10_isOwnHere_204.2.2.1
theorem dX10_isOwnHere_209 : decode cX10_isOwnHere 209 = .ok (.getfield 72, 3) := dk_dX10_isOwnHere_204.2.2.2.1
theorem dX10_isOwnHere_212 : decode cX10_isOwnHere 212 = .ok (.invokevirtual 302, 3) := dk_dX10_isOwnHere_204.2.2.2.2.1
theorem dX10_isOwnHere_215 : decode cX10_isOwnHere 215 = .ok (.ifCond .eq 7, 3) := dk_dX10_isOwnHere_204.2.2.2.2.2.1
theorem dX10_isOwnHere_218 : decode cX10_isOwnHere 218 = .ok (.iconst 1, 1) := dk_dX10_isOwnHere_204.2.2.2.2.2.2.1
theorem dX10_isOwnHere_219 : decode cX10_isOwnHere 219 = .ok (.goto 4, 3) := dk_dX10_isOwnHere_204.2.2.2.2.2.2.2.1
theorem dk_dX10_isOwnHere_204_8 : dz_C cX10_isOwnHere [(222, .iconst 0, 1), (223, .istore_n 1, 1), (224, .iload_n 1, 1), (225, .ifCond .ne 69, 3), (228, .aload_n 0, 1), (229, .aload_n 0, 1), (230, .getfield 75, 3), (233, .invokevirtual 302, 3)] := dk_dX10_isOwnHere_204.2.2.2.2.2.2.2.2
theorem dX10_isOwnHere_222 : decode cX10_isOwnHere 222 = .ok (.iconst 0, 1) := dk_dX10_isOwnHere_204_8.1
theorem dX10_isOwnHere_223 : decode cX10_isOwnHere 223 = .ok (.istore_n 1, 1) := dk_dX10_isOwnHere_204_8.2.1
theorem dX10_isOwnHere_224 : decode cX10_isOwnHere 224 = .ok (.iload_n 1, 1) := dk_dX10_isOwnHere_204_8.2.2.1
theorem dX10_isOwnHere_225 : decode cX10_isOwnHere 225 = .ok (.ifCond .ne 69, 3) := dk_dX10_isOwnHere_204_8.2.2.2.1
theorem dX10_isOwnHere_228 : decode cX10_isOwnHere 228 = .ok (.aload_n 0, 1) := dk_dX10_isOwnHere_204_8.2.2.2.2.1
theorem dX10_isOwnHere_229 : decode cX10_isOwnHere 229 = .ok (.aload_n 0, 1) := dk_dX10_isOwnHere_204_8.2.2.2.2.2.1
theorem dX10_isOwnHere_230 : decode cX10_isOwnHere 230 = .ok (.getfield 75, 3) := dk_dX10_isOwnHere_204_8.2.2.2.2.2.2.1
theorem dX10_isOwnHere_233 : decode cX10_isOwnHere 233 = .ok (.invokevirtual 302, 3) := dk_dX10_isOwnHere_204_8.2.2.2.2.2.2.2.1
theorem dk_dX10_isOwnHere_236 : dz_C cX10_isOwnHere [(236, .ifCond .ne 58, 3), (239, .aload_n 0, 1), (240, .aload_n 0, 1), (241, .getfield 78, 3), (244, .invokevirtual 302, 3), (247, .ifCond .ne 47, 3), (250, .aload_n 0, 1), (251, .aload_n 0, 1), (252, .getfield 81, 3), (255, .invokevirtual 302, 3), (258, .ifCond .ne 36, 3), (261, .aload_n 0, 1), (262, .aload_n 0, 1), (263, .getfield 84, 3), (266, .invokevirtual 302, 3), (269, .ifCond .ne 25, 3)] := dz_of (by decide +kernel)
theorem dX10_isOwnHere_236 : decode cX10_isOwnHere 236 = .ok (.ifCond .ne 58, 3) := dk_dX10_isOwnHere_236.1
theorem dX10_isOwnHere_239 : decode cX10_isOwnHere 239 = .ok (.aload_n 0, 1) := dk_dX10_isOwnHere_236.2.1
theorem dX10_isOwnHere_240 : decode cX10_isOwnHere 240 = .ok (.aload_n 0, 1) := dk_dX10_isOwnHere_236.2.2.1
theorem dX10_isOwnHere_241 : decode cX10_isOwnHere 241 = .ok (.getfield 78, 3) := dk_dX10_isOwnHere_236.2.2.2.1
theorem dX10_isOwnHere_244 : decode cX10_isOwnHere 244 = .ok (.invokevirtual 302, 3) := dk_dX10_isOwnHere_236.2.2.2.2.1
theorem dX10_isOwnHere_247 : decode cX10_isOwnHere 247 = .ok (.ifCond .ne 47, 3) := dk_dX10_isOwnHere_236.2.2.2.2.2.1
theorem dX10_isOwnHere_250 : decode cX10_isOwnHere 250 = .ok (.aload_n 0, 1) := dk_dX10_isOwnHere_236.2.2.2.2.2.2.1
theorem dX10_isOwnHere_251 : decode cX10_isOwnHere 251 = .ok (.aload_n 0, 1) := dk_dX10_isOwnHere_236.2.2.2.2.2.2.2.1
theorem dk_dX10_isOwnHere_236_8 : dz_C cX10_isOwnHere [(252, .getfield 81, 3), (255, .invokevirtual 302, 3), (258, .ifCond .ne 36, 3), (261, .aload_n 0, 1), (262, .aload_n 0, 1), (263, .getfield 84, 3), (266, .invokevirtual 302, 3), (269, .ifCond .ne 25, 3)] := dk_dX10_isOwnHere_236.2.2.2.2.2.2.2.2
theorem dX10_isOwnHere_252 : decode cX10_isOwnHere 252 = .ok (.getfield 81, 3) := dk_dX10_isOwnHere_236_8.1
theorem dX10_isOwnHere_255 : decode cX10_isOwnHere 255 = .ok (.invokevirtual 302, 3) := dk_dX10_isOwnHere_236_8.2.1
theorem dX10_isOwnHere_258 : decode cX10_isOwnHere 258 = .ok (.ifCond .ne 36, 3) := dk_dX10_isOwnHere_236_8.2.2.1
theorem dX10_isOwnHere_261 : decode cX10_isOwnHere 261 = .ok (.aload_n 0, 1) := dk_dX10_isOwnHere_236_8.2.2.2.1
theorem dX10_isOwnHere_262 : decode cX10_isOwnHere 262 = .ok (.aload_n 0, 1) := dk_dX10_isOwnHere_236_8.2.2.2.2.1
theorem dX10_isOwnHere_263 : decode cX10_isOwnHere 263 = .ok (.getfield 84, 3) := dk_dX10_isOwnHere_236_8.2.2.2.2.2.1
theorem dX10_isOwnHere_266 : decode cX10_isOwnHere 266 = .ok (.invokevirtual 302, 3) := dk_dX10_isOwnHere_236_8.2.2.2.2.2.2.1
theorem dX10_isOwnHere_269 : decode cX10_isOwnHere 269 = .ok (.ifCond .ne 25, 3) := dk_dX10_isOwnHere_236_8.2.2.2.2.2.2.2.1
theorem dk_dX10_isOwnHere_272 : dz_C cX10_isOwnHere [(272, .aload_n 0, 1), (273, .aload_n 0, 1), (274, .getfield 87, 3), (277, .invokevirtual 302, 3), (280, .ifCond .ne 14, 3), (283, .aload_n 0, 1), (284, .aload_n 0, 1), (285, .getfield 90, 3), (288, .invokevirtual 302, 3), (291, .ifCond .eq 7, 3), (294, .iconst 1, 1), (295, .goto 4, 3), (298, .iconst 0, 1), (299, .istore_n 1, 1), (300, .iload_n 1, 1), (301, .ifCond .ne 69, 3)] := dz_of (by decide +kernel)
theorem dX10_isOwnHere_272 : decode cX10_isOwnHere 272 = .ok (.aload_n 0, 1) := dk_dX10_isOwnHere_272.1
theorem dX10_isOwnHere_273 : decode cX10_isOwnHere 273 = .ok (.aload_n 0, 1) := dk_dX10_isOwnHere_272.2.1
theorem dX10_isOwnHere_274 : decode cX10_isOwnHere 274 = .ok (.getfield 87, 3) := dk_dX10_isOwnHere_272.2.2.1
theorem dX10_isOwnHere_277 : decode cX10_isOwnHere 277 = .ok (.invokevirtual 302, 3) := dk_dX10_isOwnHere_272.2.2.2.1
theorem dX10_isOwnHere_280 : decode cX10_isOwnHere 280 = .ok (.ifCond .ne 14, 3) := dk_dX10_isOwnHere_272.2.2.2.2.1
theorem dX10_isOwnHere_283 : decode cX10_isOwnHere 283 = .ok (.aload_n 0, 1) := dk_dX10_isOwnHere_272.2.2.2.2.2.1
theorem dX10_isOwnHere_284 : decode cX10_isOwnHere 284 = .ok (.aload_n 0, 1) := dk_dX10_isOwnHere_272.2.2.2.2.2.2.1
theorem dX10_isOwnHere_285 : decode cX10_isOwnHere 285 = .ok (.getfield 90, 3) := dk_dX10_isOwnHere_272.2.2.2.2.2.2.2.1
theorem dk_dX10_isOwnHere_272_8 : dz_C cX10_isOwnHere [(288, .invokevirtual 302, 3), (291, .ifCond .eq 7, 3), (294, .iconst 1, 1), (295, .goto 4, 3), (298, .iconst 0, 1), (299, .istore_n 1, 1), (300, .iload_n 1, 1), (301, .ifCond .ne 69, 3)] := dk_dX10_isOwnHere_272.2.2.2.2.2.2.2.2
theorem dX10_isOwnHere_288 : decode cX10_isOwnHere 288 = .ok (.invokevirtual 302, 3) := dk_dX10_isOwnHere_272_8.1
theorem dX10_isOwnHere_291 : decode cX10_isOwnHere 291 = .ok (.ifCond .eq 7, 3) := dk_dX10_isOwnHere_272_8.2.1
theorem dX10_isOwnHere_294 : decode cX10_isOwnHere 294 = .ok (.iconst 1, 1) := dk_dX10_isOwnHere_272_8.2.2.1
theorem dX10_isOwnHere_295 : decode cX10_isOwnHere 295 = .ok (.goto 4, 3) := dk_dX10_isOwnHere_272_8.2.2.2.1
theorem dX10_isOwnHere_298 : decode cX10_isOwnHere 298 = .ok (.iconst 0, 1) := dk_dX10_isOwnHere_272_8.2.2.2.2.1
theorem dX10_isOwnHere_299 : decode cX10_isOwnHere 299 = .ok (.istore_n 1, 1) := dk_dX10_isOwnHere_272_8.2.2.2.2.2.1
theorem dX10_isOwnHere_300 : decode cX10_isOwnHere 300 = .ok (.iload_n 1, 1) := dk_dX10_isOwnHere_272_8.2.2.2.2.2.2.1
theorem dX10_isOwnHere_301 : decode cX10_isOwnHere 301 = .ok (.ifCond .ne 69, 3) := dk_dX10_isOwnHere_272_8.2.2.2.2.2.2.2.1
theorem dk_dX10_isOwnHere_304 : dz_C cX10_isOwnHere [(304, .aload_n 0, 1), (305, .aload_n 0, 1), (306, .getfield 93, 3), (309, .invokevirtual 302, 3), (312, .ifCond .ne 58, 3), (315, .aload_n 0, 1), (316, .aload_n 0, 1), (317, .getfield 96, 3), (320, .invokevirtual 302, 3), (323, .ifCond .ne 47, 3), (326, .aload_n 0, 1), (327, .aload_n 0, 1), (328, .getfield 99, 3), (331, .invokevirtual 302, 3), (334, .ifCond .ne 36, 3), (337, .aload_n 0, 1)] := dz_of (by decide +kernel)
theorem dX10_isOwnHere_304 : decode cX10_isOwnHere 304 = .ok (.aload_n 0, 1) := dk_dX10_isOwnHere_304.1
theorem dX10_isOwnHere_305 : decode cX10_isOwnHere 305 = .ok (.aload_n 0, 1) := dk_dX10_isOwnHere_304.2.1
theorem dX10_isOwnHere_306 : decode cX10_isOwnHere 306 = .ok (.getfield 93, 3) := dk_dX10_isOwnHere_304.2.2.1
theorem dX10_isOwnHere_309 : decode cX10_isOwnHere 309 = .ok (.invokevirtual 302, 3) := dk_dX10_isOwnHere_304.2.2.2.1
theorem dX10_isOwnHere_312 : decode cX10_isOwnHere 312 = .ok (.ifCond .ne 58, 3) := dk_dX10_isOwnHere_304.2.2.2.2.1
theorem dX10_isOwnHere_315 : decode cX10_isOwnHere 315 = .ok (.aload_n 0, 1) := dk_dX10_isOwnHere_304.2.2.2.2.2.1
theorem dX10_isOwnHere_316 : decode cX10_isOwnHere 316 = .ok (.aload_n 0, 1) := dk_dX10_isOwnHere_304.2.2.2.2.2.2.1
theorem dX10_isOwnHere_317 : decode cX10_isOwnHere 317 = .ok (.getfield 96, 3) := dk_dX10_isOwnHere_304.2.2.2.2.2.2.2.1
theorem dk_dX10_isOwnHere_304_8 : dz_C cX10_isOwnHere [(320, .invokevirtual 302, 3), (323, .ifCond .ne 47, 3), (326, .aload_n 0, 1), (327, .aload_n 0, 1), (328, .getfield 99, 3), (331, .invokevirtual 302, 3), (334, .ifCond .ne 36, 3), (337, .aload_n 0, 1)] := dk_dX10_isOwnHere_304.2.2.2.2.2.2.2.2
theorem dX10_isOwnHere_320 : decode cX10_isOwnHere 320 = .ok (.invokevirtual 302, 3) := dk_dX10_isOwnHere_304_8.1
theorem dX10_isOwnHere_323 : decode cX10_isOwnHere 323 = .ok (.ifCond .ne 47, 3) := dk_dX10_isOwnHere_304_8.2.1
theorem dX10_isOwnHere_326 : decode cX10_isOwnHere 326 = .ok (.aload_n 0, 1) := dk_dX10_isOwnHere_304_8.2.2.1
theorem dX10_isOwnHere_327 : decode cX10_isOwnHere 327 = .ok (.aload_n 0, 1) := dk_dX10_isOwnHere_304_8.2.2.2.1
theorem dX10_isOwnHere_328 : decode cX10_isOwnHere 328 = .ok (.getfield 99, 3) := dk_dX10_isOwnHere_304_8.2.2.2.2.1
theorem dX10_isOwnHere_331 : decode cX10_isOwnHere 331 = .ok (.invokevirtual 302, 3) := dk_dX10_isOwnHere_304_8.2.2.2.2.2.1
theorem dX10_isOwnHere_334 : decode cX10_isOwnHere 334 = .ok (.ifCond .ne 36, 3) := dk_dX10_isOwnHere_304_8.2.2.2.2.2.2.1
theorem dX10_isOwnHere_337 : decode cX10_isOwnHere 337 = .ok (.aload_n 0, 1) := dk_dX10_isOwnHere_304_8.2.2.2.2.2.2.2.1
theorem dk_dX10_isOwnHere_338 : dz_C cX10_isOwnHere [(338, .aload_n 0, 1), (339, .getfield 102, 3), (342, .invokevirtual 302, 3), (345, .ifCond .ne 25, 3), (348, .aload_n 0, 1), (349, .aload_n 0, 1), (350, .getfield 105, 3), (353, .invokevirtual 302, 3), (356, .ifCond .ne 14, 3), (359, .aload_n 0, 1), (360, .aload_n 0, 1), (361, .getfield 108, 3), (364, .invokevirtual 302, 3), (367, .ifCond .eq 7, 3), (370, .iconst 1, 1), (371, .goto 4, 3)] := dz_of (by decide +kernel)
theorem dX10_isOwnHere_338 : decode cX10_isOwnHere 338 = .ok (.aload_n 0, 1) := dk_dX10_isOwnHere_338.1
theorem dX10_isOwnHere_339 : decode cX10_isOwnHere 339 = .ok (.getfield 102, 3) := dk_dX10_isOwnHere_338.2.1
theorem dX10_isOwnHere_342 : decode cX10_isOwnHere 342 = .ok (.invokevirtual 302, 3) := dk_dX10_isOwnHere_338.2.2.1
theorem dX10_isOwnHere_345 : decode cX10_isOwnHere 345 = .ok (.ifCond .ne 25, 3) := dk_dX10_isOwnHere_338.2.2.2.1
theorem dX10_isOwnHere_348 : decode cX10_isOwnHere 348 = .ok (.aload_n 0, 1) := dk_dX10_isOwnHere_338.2.2.2.2.1
theorem dX10_isOwnHere_349 : decode cX10_isOwnHere 349 = .ok (.aload_n 0, 1) := dk_dX10_isOwnHere_338.2.2.2.2.2.1
theorem dX10_isOwnHere_350 : decode cX10_isOwnHere 350 = .ok (.getfield 105, 3) := dk_dX10_isOwnHere_338.2.2.2.2.2.2.1
theorem dX10_isOwnHere_353 : decode cX10_isOwnHere 353 = .ok (.invokevirtual 302, 3) := dk_dX10_isOwnHere_338.2.2.2.2.2.2.2.1
theorem dk_dX10_isOwnHere_338_8 : dz_C cX10_isOwnHere [(356, .ifCond .ne 14, 3), (359, .aload_n 0, 1), (360, .aload_n 0, 1), (361, .getfield 108, 3), (364, .invokevirtual 302, 3), (367, .ifCond .eq 7, 3), (370, .iconst 1, 1), (371, .goto 4, 3)] := dk_dX10_isOwnHere_338.2.2.2.2.2.2.2.2
theorem dX10_isOwnHere_356 : decode cX10_isOwnHere 356 = .ok (.ifCond .ne 14, 3) := dk_dX10_isOwnHere_338_8.1
theorem dX10_isOwnHere_359 : decode cX10_isOwnHere 359 = .ok (.aload_n 0, 1) := dk_dX10_isOwnHere_338_8.2.1
theorem dX10_isOwnHere_360 : decode cX10_isOwnHere 360 = .ok (.aload_n 0, 1) := dk_dX10_isOwnHere_338_8.2.2.1
theorem dX10_isOwnHere_361 : decode cX10_isOwnHere 361 = .ok (.getfield 108, 3) := dk_dX10_isOwnHere_338_8.2.2.2.1
theorem dX10_isOwnHere_364 : decode cX10_isOwnHere 364 = .ok (.invokevirtual 302, 3) := dk_dX10_isOwnHere_338_8.2.2.2.2.1
theorem dX10_isOwnHere_367 : decode cX10_isOwnHere 367 = .ok (.ifCond .eq 7, 3) := dk_dX10_isOwnHere_338_8.2.2.2.2.2.1
theorem dX10_isOwnHere_370 : decode cX10_isOwnHere 370 = .ok (.iconst 1, 1) := dk_dX10_isOwnHere_338_8.2.2.2.2.2.2.1
theorem dX10_isOwnHere_371 : decode cX10_isOwnHere 371 = .ok (.goto 4, 3) := dk_dX10_isOwnHere_338_8.2.2.2.2.2.2.2.1
theorem dk_dX10_isOwnHere_374 : dz_C cX10_isOwnHere [(374, .iconst 0, 1), (375, .istore_n 1, 1), (376, .iload_n 1, 1), (377, .ireturn, 1)] := dz_of (by decide +kernel)
theorem dX10_isOwnHere_374 : decode cX10_isOwnHere 374 = .ok (.iconst 0, 1) := dk_dX10_isOwnHere_374.1
theorem dX10_isOwnHere_375 : decode cX10_isOwnHere 375 = .ok (.istore_n 1, 1) := dk_dX10_isOwnHere_374.2.1
theorem dX10_isOwnHere_376 : decode cX10_isOwnHere 376 = .ok (.iload_n 1, 1) := dk_dX10_isOwnHere_374.2.2.1
theorem dX10_isOwnHere_377 : decode cX10_isOwnHere 377 = .ok (.ireturn, 1) := dk_dX10_isOwnHere_374.2.2.2.1
theorem dk_dX10_isRefused_0 : dz_C cX10_isRefused [(0, .aload_n 0, 1), (1, .getfield 17, 3), (4, .iconst 2, 1), (5, .dup2, 1), (6, .iaload, 1), (7, .iconst 1, 1), (8, .iadd, 1), (9, .iastore, 1), (10, .iconst 0, 1), (11, .ireturn, 1)] := dz_of (by decide +kernel)
theorem dX10_isRefused_0 : decode cX10_isRefused 0 = .ok (.aload_n 0, 1) := dk_dX10_isRefused_0.1
theorem dX10_isRefused_1 : decode cX10_isRefused 1 = .ok (.getfield 17, 3) := dk_dX10_isRefused_0.2.1
theorem dX10_isRefused_4 : decode cX10_isRefused 4 = .ok (.iconst 2, 1) := dk_dX10_isRefused_0.2.2.1
theorem dX10_isRefused_5 : decode cX10_isRefused 5 = .ok (.dup2, 1) := dk_dX10_isRefused_0.2.2.2.1
theorem dX10_isRefused_6 : decode cX10_isRefused 6 = .ok (.iaload, 1) := dk_dX10_isRefused_0.2.2.2.2.1
theorem dX10_isRefused_7 : decode cX10_isRefused 7 = .ok (.iconst 1, 1) := dk_dX10_isRefused_0.2.2.2.2.2.1
theorem dX10_isRefused_8 : decode cX10_isRefused 8 = .ok (.iadd, 1) := dk_dX10_isRefused_0.2.2.2.2.2.2.1
theorem dX10_isRefused_9 : decode cX10_isRefused 9 = .ok (.iastore, 1) := dk_dX10_isRefused_0.2.2.2.2.2.2.2.1
theorem dk_dX10_isRefused_0_8 : dz_C cX10_isRefused [(10, .iconst 0, 1), (11, .ireturn, 1)] := dk_dX10_isRefused_0.2.2.2.2.2.2.2.2
theorem dX10_isRefused_10 : decode cX10_isRefused 10 = .ok (.iconst 0, 1) := dk_dX10_isRefused_0_8.1
theorem dX10_isRefused_11 : decode cX10_isRefused 11 = .ok (.ireturn, 1) := dk_dX10_isRefused_0_8.2.1
theorem dk_dX10_isWalker_0 : dz_C cX10_isWalker [(0, .iload_n 1, 1), (1, .i2l, 1), (2, .lconst 0, 1), (3, .aload_n 0, 1), (4, .invokevirtual 433, 3), (7, .iconst 1, 1), (8, .isub, 1), (9, .i2l, 1), (10, .invokestatic 318, 3), (13, .ireturn, 1)] := dz_of (by decide +kernel)
theorem dX10_isWalker_0 : decode cX10_isWalker 0 = .ok (.iload_n 1, 1) := dk_dX10_isWalker_0.1
theorem dX10_isWalker_1 : decode cX10_isWalker 1 = .ok (.i2l, 1) := dk_dX10_isWalker_0.2.1
theorem dX10_isWalker_2 : decode cX10_isWalker 2 = .ok (.lconst 0, 1) := dk_dX10_isWalker_0.2.2.1
theorem dX10_isWalker_3 : decode cX10_isWalker 3 = .ok (.aload_n 0, 1) := dk_dX10_isWalker_0.2.2.2.1
theorem dX10_isWalker_4 : decode cX10_isWalker 4 = .ok (.invokevirtual 433, 3) := dk_dX10_isWalker_0.2.2.2.2.1
theorem dX10_isWalker_7 : decode cX10_isWalker 7 = .ok (.iconst 1, 1) := dk_dX10_isWalker_0.2.2.2.2.2.1
theorem dX10_isWalker_8 : decode cX10_isWalker 8 = .ok (.isub, 1) := dk_dX10_isWalker_0.2.2.2.2.2.2.1
theorem dX10_isWalker_9 : decode cX10_isWalker 9 = .ok (.i2l, 1) := dk_dX10_isWalker_0.2.2.2.2.2.2.2.1
theorem dk_dX10_isWalker_0_8 : dz_C cX10_isWalker [(10, .invokestatic 318, 3), (13, .ireturn, 1)] := dk_dX10_isWalker_0.2.2.2.2.2.2.2.2
theorem dX10_isWalker_10 : decode cX10_isWalker 10 = .ok (.invokestatic 318, 3) := dk_dX10_isWalker_0_8.1
theorem dX10_isWalker_13 : decode cX10_isWalker 13 = .ok (.ireturn, 1) := dk_dX10_isWalker_0_8.2.1
theorem dk_dX10_keeps_0 : dz_C cX10_keeps [(0, .aload_n 0, 1), (1, .aload_n 0, 1), (2, .getfield 588, 3), (5, .iconst 1, 1), (6, .iadd, 1), (7, .bipush 20, 2), (9, .irem, 1), (10, .putfield 588, 3), (13, .iconst 0, 1), (14, .istore_n 1, 1), (15, .iload_n 1, 1), (16, .bipush 9, 2), (18, .if_icmp .ge 29, 3), (21, .aload_n 0, 1), (22, .getfield 182, 3), (25, .bipush 9, 2)] := dz_of (by decide +kernel)
theorem dX10_keeps_0 : decode cX10_keeps 0 = .ok (.aload_n 0, 1) := dk_dX10_keeps_0.1
theorem dX10_keeps_1 : decode cX10_keeps 1 = .ok (.aload_n 0, 1) := dk_dX10_keeps_0.2.1
theorem dX10_keeps_2 : decode cX10_keeps 2 = .ok (.getfield 588, 3) := dk_dX10_keeps_0.2.2.1
theorem dX10_keeps_5 : decode cX10_keeps 5 = .ok (.iconst 1, 1) := dk_dX10_keeps_0.2.2.2.1
theorem dX10_keeps_6 : decode cX10_keeps 6 = .ok (.iadd, 1) := dk_dX10_keeps_0.2.2.2.2.1
theorem dX10_keeps_7 : decode cX10_keeps 7 = .ok (.bipush 20, 2) := dk_dX10_keeps_0.2.2.2.2.2.1
theorem dX10_keeps_9 : decode cX10_keeps 9 = .ok (.irem, 1) := dk_dX10_keeps_0.2.2.2.2.2.2.1
theorem dX10_keeps_10 : decode cX10_keeps 10 = .ok (.putfield 588, 3) := dk_dX10_keeps_0.2.2.2.2.2.2.2.1
theorem dk_dX10_keeps_0_8 : dz_C cX10_keeps [(13, .iconst 0, 1), (14, .istore_n 1, 1), (15, .iload_n 1, 1), (16, .bipush 9, 2), (18, .if_icmp .ge 29, 3), (21, .aload_n 0, 1), (22, .getfield 182, 3), (25, .bipush 9, 2)] := dk_dX10_keeps_0.2.2.2.2.2.2.2.2
theorem dX10_keeps_13 : decode cX10_keeps 13 = .ok (.iconst 0, 1) := dk_dX10_keeps_0_8.1
theorem dX10_keeps_14 : decode cX10_keeps 14 = .ok (.istore_n 1, 1) := dk_dX10_keeps_0_8.2.1
theorem dX10_keeps_15 : decode cX10_keeps 15 = .ok (.iload_n 1, 1) := dk_dX10_keeps_0_8.2.2.1
theorem dX10_keeps_16 : decode cX10_keeps 16 = .ok (.bipush 9, 2) := dk_dX10_keeps_0_8.2.2.2.1
theorem dX10_keeps_18 : decode cX10_keeps 18 = .ok (.if_icmp .ge 29, 3) := dk_dX10_keeps_0_8.2.2.2.2.1
theorem dX10_keeps_21 : decode cX10_keeps 21 = .ok (.aload_n 0, 1) := dk_dX10_keeps_0_8.2.2.2.2.2.1
theorem dX10_keeps_22 : decode cX10_keeps 22 = .ok (.getfield 182, 3) := dk_dX10_keeps_0_8.2.2.2.2.2.2.1
theorem dX10_keeps_25 : decode cX10_keeps 25 = .ok (.bipush 9, 2) := dk_dX10_keeps_0_8.2.2.2.2.2.2.2.1
theorem dk_dX10_keeps_27 : dz_C cX10_keeps [(27, .aload_n 0, 1), (28, .getfield 588, 3), (31, .imul, 1), (32, .iload_n 1, 1), (33, .iadd, 1), (34, .aload_n 0, 1), (35, .getfield 139, 3), (38, .iload_n 1, 1), (39, .iaload, 1), (40, .iastore, 1), (41, .iinc 1 1, 3), (44, .goto (-29), 3), (47, .aload_n 0, 1)] := dz_of (by decide +kernel)
theorem dX10_keeps_27 : decode cX10_keeps 27 = .ok (.aload_n 0, 1) := dk_dX10_keeps_27.1
theorem dX10_keeps_28 : decode cX10_keeps 28 = .ok (.getfield 588, 3) := dk_dX10_keeps_27.2.1
theorem dX10_keeps_31 : decode cX10_keeps 31 = .ok (.imul, 1) := dk_dX10_keeps_27.2.2.1
theorem dX10_keeps_32 : decode cX10_keeps 32 = .ok (.iload_n 1, 1) := dk_dX10_keeps_27.2.2.2.1
theorem dX10_keeps_33 : decode cX10_keeps 33 = .ok (.iadd, 1) := dk_dX10_keeps_27.2.2.2.2.1
theorem dX10_keeps_34 : decode cX10_keeps 34 = .ok (.aload_n 0, 1) := dk_dX10_keeps_27.2.2.2.2.2.1
theorem dX10_keeps_35 : decode cX10_keeps 35 = .ok (.getfield 139, 3) := dk_dX10_keeps_27.2.2.2.2.2.2.1
theorem dX10_keeps_38 : decode cX10_keeps 38 = .ok (.iload_n 1, 1) := dk_dX10_keeps_27.2.2.2.2.2.2.2.1
theorem dk_dX10_keeps_27_8 : dz_C cX10_keeps [(39, .iaload, 1), (40, .iastore, 1), (41, .iinc 1 1, 3), (44, .goto (-29), 3), (47, .aload_n 0, 1)] := dk_dX10_keeps_27.2.2.2.2.2.2.2.2
theorem dX10_keeps_39 : decode cX10_keeps 39 = .ok (.iaload, 1) := dk_dX10_keeps_27_8.1
theorem dX10_keeps_40 : decode cX10_keeps 40 = .ok (.iastore, 1) := dk_dX10_keeps_27_8.2.1
theorem dX10_keeps_41 : decode cX10_keeps 41 = .ok (.iinc 1 1, 3) := dk_dX10_keeps_27_8.2.2.1
theorem dX10_keeps_44 : decode cX10_keeps 44 = .ok (.goto (-29), 3) := dk_dX10_keeps_27_8.2.2.2.1
theorem dX10_keeps_47 : decode cX10_keeps 47 = .ok (.aload_n 0, 1) := dk_dX10_keeps_27_8.2.2.2.2.1
