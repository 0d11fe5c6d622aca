theorem fl_X12_54 : Cond.fieldLink RX12 54 "CloneVolumesModel" "blockWord" "[C" ∈ lw_gd := zm (List.mem_of_getElem? (i := 1560) (by decide +kernel)) rfl
theorem fl_X12_57 : Cond.fieldLink RX12 57 "CloneVolumesModel" "fromWord" "[C" ∈ lw_gd := zm (List.mem_of_getElem? (i := 1561) (by decide +kernel)) rfl
theorem fl_X12_60 : Cond.fieldLink RX12 60 "CloneVolumesModel" "levelWord" "[C" ∈ lw_gd := zm (List.mem_of_getElem? (i := 1562) (by decide +kernel)) rfl
theorem fl_X12_63 : Cond.fieldLink RX12 63 "CloneVolumesModel" "entriesWord" "[C" ∈ lw_gd := zm (List.mem_of_getElem? (i := 1563) (by decide +kernel)) rfl
theorem fl_X12_66 : Cond.fieldLink RX12 66 "CloneVolumesModel" "numberWord" "[C" ∈ lw_gd := zm (List.mem_of_getElem? (i := 1564) (by decide +kernel)) rfl
theorem fl_X12_69 : Cond.fieldLink RX12 69 "CloneVolumesModel" "countWord" "[C" ∈ lw_gd := zm (List.mem_of_getElem? (i := 1565) (by decide +kernel)) rfl
theorem fl_X12_72 : Cond.fieldLink RX12 72 "CloneVolumesModel" "freshWord" "[C" ∈ lw_gd := zm (List.mem_of_getElem? (i := 1566) (by decide +kernel)) rfl
theorem fl_X12_75 : Cond.fieldLink RX12 75 "CloneVolumesModel" "savedWord" "[C" ∈ lw_gd := zm (List.mem_of_getElem? (i := 1567) (by decide +kernel)) rfl
theorem fl_X12_78 : Cond.fieldLink RX12 78 "CloneVolumesModel" "refsWord" "[C" ∈ lw_gd := zm (List.mem_of_getElem? (i := 1568) (by decide +kernel)) rfl
theorem fl_X12_81 : Cond.fieldLink RX12 81 "CloneVolumesModel" "keyWord" "[C" ∈ lw_gd := zm (List.mem_of_getElem? (i := 1569) (by decide +kernel)) rfl
theorem dX12_init_372 : decode cX12_init 372 = .ok (.aload_n 0, 1) := by decide +kernel
theorem dX12_init_373 : decode cX12_init 373 = .ok (.iconst 5, 1) := by decide +kernel
theorem dX12_init_374 : decode cX12_init 374 = .ok (.newarray .char, 2) := by decide +kernel
theorem dX12_init_376 : decode cX12_init 376 = .ok (.dup, 1) := by decide +kernel
theorem dX12_init_377 : decode cX12_init 377 = .ok (.iconst 0, 1) := by decide +kernel
theorem dX12_init_378 : decode cX12_init 378 = .ok (.bipush 98, 2) := by decide +kernel
theorem dX12_init_380 : decode cX12_init 380 = .ok (.castore, 1) := by decide +kernel
theorem dX12_init_381 : decode cX12_init 381 = .ok (.dup, 1) := by decide +kernel
theorem dX12_init_382 : decode cX12_init 382 = .ok (.iconst 1, 1) := by decide +kernel
theorem dX12_init_383 : decode cX12_init 383 = .ok (.bipush 108, 2) := by decide +kernel
theorem dX12_init_385 : decode cX12_init 385 = .ok (.castore, 1) := by decide +kernel
theorem dX12_init_386 : decode cX12_init 386 = .ok (.dup, 1) := by decide +kernel
theorem dX12_init_387 : decode cX12_init 387 = .ok (.iconst 2, 1) := by decide +kernel
theorem dX12_init_388 : decode cX12_init 388 = .ok (.bipush 111, 2) := by decide +kernel
theorem dX12_init_390 : decode cX12_init 390 = .ok (.castore, 1) := by decide +kernel
theorem dX12_init_391 : decode cX12_init 391 = .ok (.dup, 1) := by decide +kernel
theorem dX12_init_392 : decode cX12_init 392 = .ok (.iconst 3, 1) := by decide +kernel
theorem dX12_init_393 : decode cX12_init 393 = .ok (.bipush 99, 2) := by decide +kernel
theorem dX12_init_395 : decode cX12_init 395 = .ok (.castore, 1) := by decide +kernel
theorem dX12_init_396 : decode cX12_init 396 = .ok (.dup, 1) := by decide +kernel
theorem dX12_init_397 : decode cX12_init 397 = .ok (.iconst 4, 1) := by decide +kernel
theorem dX12_init_398 : decode cX12_init 398 = .ok (.bipush 107, 2) := by decide +kernel
theorem dX12_init_400 : decode cX12_init 400 = .ok (.castore, 1) := by decide +kernel
theorem dX12_init_401 : decode cX12_init 401 = .ok (.putfield 54, 3) := by decide +kernel
theorem dX12_init_404 : decode cX12_init 404 = .ok (.aload_n 0, 1) := by decide +kernel
theorem dX12_init_405 : decode cX12_init 405 = .ok (.iconst 4, 1) := by decide +kernel
theorem dX12_init_406 : decode cX12_init 406 = .ok (.newarray .char, 2) := by decide +kernel
theorem dX12_init_408 : decode cX12_init 408 = .ok (.dup, 1) := by decide +kernel
theorem dX12_init_409 : decode cX12_init 409 = .ok (.iconst 0, 1) := by decide +kernel
theorem dX12_init_410 : decode cX12_init 410 = .ok (.bipush 102, 2) := by decide +kernel
theorem dX12_init_412 : decode cX12_init 412 = .ok (.castore, 1) := by decide +kernel
theorem dX12_init_413 : decode cX12_init 413 = .ok (.dup, 1) := by decide +kernel
theorem dX12_init_414 : decode cX12_init 414 = .ok (.iconst 1, 1) := by decide +kernel
theorem dX12_init_415 : decode cX12_init 415 = .ok (.bipush 114, 2) := by decide +kernel
theorem dX12_init_417 : decode cX12_init 417 = .ok (.castore, 1) := by decide +kernel
theorem dX12_init_418 : decode cX12_init 418 = .ok (.dup, 1) := by decide +kernel
theorem dX12_init_419 : decode cX12_init 419 = .ok (.iconst 2, 1) := by decide +kernel
theorem dX12_init_420 : decode cX12_init 420 = .ok (.bipush 111, 2) := by decide +kernel
theorem dX12_init_422 : decode cX12_init 422 = .ok (.castore, 1) := by decide +kernel
theorem dX12_init_423 : decode cX12_init 423 = .ok (.dup, 1) := by decide +kernel
theorem dX12_init_424 : decode cX12_init 424 = .ok (.iconst 3, 1) := by decide +kernel
theorem dX12_init_425 : decode cX12_init 425 = .ok (.bipush 109, 2) := by decide +kernel
theorem dX12_init_427 : decode cX12_init 427 = .ok (.castore, 1) := by decide +kernel
theorem dX12_init_428 : decode cX12_init 428 = .ok (.putfield 57, 3) := by decide +kernel
theorem dX12_init_431 : decode cX12_init 431 = .ok (.aload_n 0, 1) := by decide +kernel
theorem dX12_init_432 : decode cX12_init 432 = .ok (.iconst 5, 1) := by decide +kernel
theorem dX12_init_433 : decode cX12_init 433 = .ok (.newarray .char, 2) := by decide +kernel
theorem dX12_init_435 : decode cX12_init 435 = .ok (.dup, 1) := by decide +kernel
theorem dX12_init_436 : decode cX12_init 436 = .ok (.iconst 0, 1) := by decide +kernel
theorem dX12_init_437 : decode cX12_init 437 = .ok (.bipush 108, 2) := by decide +kernel
theorem dX12_init_439 : decode cX12_init 439 = .ok (.castore, 1) := by decide +kernel
theorem dX12_init_440 : decode cX12_init 440 = .ok (.dup, 1) := by decide +kernel
theorem dX12_init_441 : decode cX12_init 441 = .ok (.iconst 1, 1) := by decide +kernel
theorem dX12_init_442 : decode cX12_init 442 = .ok (.bipush 101, 2) := by decide +kernel
theorem dX12_init_444 : decode cX12_init 444 = .ok (.castore, 1) := by decide +kernel
theorem dX12_init_445 : decode cX12_init 445 = .ok (.dup, 1) := by decide +kernel
theorem dX12_init_446 : decode cX12_init 446 = .ok (.iconst 2, 1) := by decide +kernel
theorem dX12_init_447 : decode cX12_init 447 = .ok (.bipush 118, 2) := by decide +kernel
theorem dX12_init_449 : decode cX12_init 449 = .ok (.castore, 1) := by decide +kernel
theorem dX12_init_450 : decode cX12_init 450 = .ok (.dup, 1) := by decide +kernel
theorem dX12_init_451 : decode cX12_init 451 = .ok (.iconst 3, 1) := by decide +kernel
theorem dX12_init_452 : decode cX12_init 452 = .ok (.bipush 101, 2) := by decide +kernel
theorem dX12_init_454 : decode cX12_init 454 = .ok (.castore, 1) := by decide +kernel
theorem dX12_init_455 : decode cX12_init 455 = .ok (.dup, 1) := by decide +kernel
theorem dX12_init_456 : decode cX12_init 456 = .ok (.iconst 4, 1) := by decide +kernel
theorem dX12_init_457 : decode cX12_init 457 = .ok (.bipush 108, 2) := by decide +kernel
theorem dX12_init_459 : decode cX12_init 459 = .ok (.castore, 1) := by decide +kernel
theorem dX12_init_460 : decode cX12_init 460 = .ok (.putfield 60, 3) := by decide +kernel
theorem dX12_init_463 : decode cX12_init 463 = .ok (.aload_n 0, 1) := by decide +kernel
theorem dX12_init_464 : decode cX12_init 464 = .ok (.bipush 7, 2) := by decide +kernel
theorem dX12_init_466 : decode cX12_init 466 = .ok (.newarray .char, 2) := by decide +kernel
theorem dX12_init_468 : decode cX12_init 468 = .ok (.dup, 1) := by decide +kernel
theorem dX12_init_469 : decode cX12_init 469 = .ok (.iconst 0, 1) := by decide +kernel
theorem dX12_init_470 : decode cX12_init 470 = .ok (.bipush 101, 2) := by decide +kernel
theorem dX12_init_472 : decode cX12_init 472 = .ok (.castore, 1) := by decide +kernel
theorem dX12_init_473 : decode cX12_init 473 = .ok (.dup, 1) := by decide +kernel
theorem dX12_init_474 : decode cX12_init 474 = .ok (.iconst 1, 1) := by decide +kernel
theorem dX12_init_475 : decode cX12_init 475 = .ok (.bipush 110, 2) := by decide +kernel
theorem dX12_init_477 : decode cX12_init 477 = .ok (.castore, 1) := by decide +kernel
theorem dX12_init_478 : decode cX12_init 478 = .ok (.dup, 1) := by decide +kernel
theorem dX12_init_479 : decode cX12_init 479 = .ok (.iconst 2, 1) := by decide +kernel
theorem dX12_init_480 : decode cX12_init 480 = .ok (.bipush 116, 2) := by decide +kernel
theorem dX12_init_482 : decode cX12_init 482 = .ok (.castore, 1) := by decide +kernel
theorem dX12_init_483 : decode cX12_init 483 = .ok (.dup, 1) := by decide +kernel
theorem dX12_init_484 : decode cX12_init 484 = .ok (.iconst 3, 1) := by decide +kernel
theorem dX12_init_485 : decode cX12_init 485 = .ok (.bipush 114, 2) := by decide +kernel
theorem dX12_init_487 : decode cX12_init 487 = .ok (.castore, 1) := by decide +kernel
theorem dX12_init_488 : decode cX12_init 488 = .ok (.dup, 1) := by decide +kernel
theorem dX12_init_489 : decode cX12_init 489 = .ok (.iconst 4, 1) := by decide +kernel
theorem dX12_init_490 : decode cX12_init 490 = .ok (.bipush 105, 2) := by decide +kernel
theorem dX12_init_492 : decode cX12_init 492 = .ok (.castore, 1) := by decide +kernel
theorem dX12_init_493 : decode cX12_init 493 = .ok (.dup, 1) := by decide +kernel
theorem dX12_init_494 : decode cX12_init 494 = .ok (.iconst 5, 1) := by decide +kernel
theorem dX12_init_495 : decode cX12_init 495 = .ok (.bipush 101, 2) := by decide +kernel
theorem dX12_init_497 : decode cX12_init 497 = .ok (.castore, 1) := by decide +kernel
theorem dX12_init_498 : decode cX12_init 498 = .ok (.dup, 1) := by decide +kernel
theorem dX12_init_499 : decode cX12_init 499 = .ok (.bipush 6, 2) := by decide +kernel
theorem dX12_init_501 : decode cX12_init 501 = .ok (.bipush 115, 2) := by decide +kernel
theorem dX12_init_503 : decode cX12_init 503 = .ok (.castore, 1) := by decide +kernel
theorem dX12_init_504 : decode cX12_init 504 = .ok (.putfield 63, 3) := by decide +kernel
theorem dX12_init_507 : decode cX12_init 507 = .ok (.aload_n 0, 1) := by decide +kernel
theorem dX12_init_508 : decode cX12_init 508 = .ok (.bipush 6, 2) := by decide +kernel
theorem dX12_init_510 : decode cX12_init 510 = .ok (.newarray .char, 2) := by decide +kernel
theorem dX12_init_512 : decode cX12_init 512 = .ok (.dup, 1) := by decide +kernel
theorem dX12_init_513 : decode cX12_init 513 = .ok (.iconst 0, 1) := by decide +kernel
theorem dX12_init_514 : decode cX12_init 514 = .ok (.bipush 110, 2) := by decide +kernel
theorem dX12_init_516 : decode cX12_init 516 = .ok (.castore, 1) := by decide +kernel
theorem dX12_init_517 : decode cX12_init 517 = .ok (.dup, 1) := by decide +kernel
theorem dX12_init_518 : decode cX12_init 518 = .ok (.iconst 1, 1) := by decide +kernel
theorem dX12_init_519 : decode cX12_init 519 = .ok (.bipush 117, 2) := by decide +kernel
theorem dX12_init_521 : decode cX12_init 521 = .ok (.castore, 1) := by decide +kernel
theorem dX12_init_522 : decode cX12_init 522 = .ok (.dup, 1) := by decide +kernel
theorem dX12_init_523 : decode cX12_init 523 = .ok (.iconst 2, 1) := by decide +kernel
theorem dX12_init_524 : decode cX12_init 524 = .ok (.bipush 109, 2) := by decide +kernel
theorem dX12_init_526 : decode cX12_init 526 = .ok (.castore, 1) := by decide +kernel
theorem dX12_init_527 : decode cX12_init 527 = .ok (.dup, 1) := by decide +kernel
theorem dX12_init_528 : decode cX12_init 528 = .ok (.iconst 3, 1) := by decide +kernel
theorem dX12_init_529 : decode cX12_init 529 = .ok (.bipush 98, 2) := by decide +kernel
theorem dX12_init_531 : decode cX12_init 531 = .ok (.castore, 1) := by decide +kernel
theorem dX12_init_532 : decode cX12_init 532 = .ok (.dup, 1) := by decide +kernel
theorem dX12_init_533 : decode cX12_init 533 = .ok (.iconst 4, 1) := by decide +kernel
theorem dX12_init_534 : decode cX12_init 534 = .ok (.bipush 101, 2) := by decide +kernel
theorem dX12_init_536 : decode cX12_init 536 = .ok (.castore, 1) := by decide +kernel
theorem dX12_init_537 : decode cX12_init 537 = .ok (.dup, 1) := by decide +kernel
theorem dX12_init_538 : decode cX12_init 538 = .ok (.iconst 5, 1) := by decide +kernel
theorem dX12_init_539 : decode cX12_init 539 = .ok (.bipush 114, 2) := by decide +kernel
theorem dX12_init_541 : decode cX12_init 541 = .ok (.castore, 1) := by decide +kernel
theorem dX12_init_542 : decode cX12_init 542 = .ok (.putfield 66, 3) := by decide +kernel
theorem dX12_init_545 : decode cX12_init 545 = .ok (.aload_n 0, 1) := by decide +kernel
theorem dX12_init_546 : decode cX12_init 546 = .ok (.iconst 5, 1) := by decide +kernel
theorem dX12_init_547 : decode cX12_init 547 = .ok (.newarray .char, 2) := by decide +kernel
theorem dX12_init_549 : decode cX12_init 549 = .ok (.dup, 1) := by decide +kernel
theorem dX12_init_550 : decode cX12_init 550 = .ok (.iconst 0, 1) := by decide +kernel
theorem dX12_init_551 : decode cX12_init 551 = .ok (.bipush 99, 2) := by decide +kernel
theorem dX12_init_553 : decode cX12_init 553 = .ok (.castore, 1) := by decide +kernel
theorem dX12_init_554 : decode cX12_init 554 = .ok (.dup, 1) := by decide +kernel
theorem dX12_init_555 : decode cX12_init 555 = .ok (.iconst 1, 1) := by decide +kernel
theorem dX12_init_556 : decode cX12_init 556 = .ok (.bipush 111, 2) := by decide +kernel
theorem dX12_init_558 : decode cX12_init 558 = .ok (.castore, 1) := by decide +kernel
theorem dX12_init_559 : decode cX12_init 559 = .ok (.dup, 1) := by decide +kernel
theorem dX12_init_560 : decode cX12_init 560 = .ok (.iconst 2, 1) := by decide +kernel
theorem dX12_init_561 : decode cX12_init 561 = .ok (.bipush 117, 2) := by decide +kernel
theorem dX12_init_563 : decode cX12_init 563 = .ok (.castore, 1) := by decide +kernel
theorem dX12_init_564 : decode cX12_init 564 = .ok (.dup, 1) := by decide +kernel
theorem dX12_init_565 : decode cX12_init 565 = .ok (.iconst 3, 1) := by decide +kernel
theorem dX12_init_566 : decode cX12_init 566 = .ok (.bipush 110, 2) := by decide +kernel
theorem dX12_init_568 : decode cX12_init 568 = .ok (.castore, 1) := by decide +kernel
theorem dX12_init_569 : decode cX12_init 569 = .ok (.dup, 1) := by decide +kernel
theorem dX12_init_570 : decode cX12_init 570 = .ok (.iconst 4, 1) := by decide +kernel
theorem dX12_init_571 : decode cX12_init 571 = .ok (.bipush 116, 2) := by decide +kernel
theorem dX12_init_573 : decode cX12_init 573 = .ok (.castore, 1) := by decide +kernel
theorem dX12_init_574 : decode cX12_init 574 = .ok (.putfield 69, 3) := by decide +kernel
theorem dX12_init_577 : decode cX12_init 577 = .ok (.aload_n 0, 1) := by decide +kernel
theorem dX12_init_578 : decode cX12_init 578 = .ok (.iconst 5, 1) := by decide +kernel
theorem dX12_init_579 : decode cX12_init 579 = .ok (.newarray .char, 2) := by decide +kernel
theorem dX12_init_581 : decode cX12_init 581 = .ok (.dup, 1) := by decide +kernel
theorem dX12_init_582 : decode cX12_init 582 = .ok (.iconst 0, 1) := by decide +kernel
theorem dX12_init_583 : decode cX12_init 583 = .ok (.bipush 102, 2) := by decide +kernel
theorem dX12_init_585 : decode cX12_init 585 = .ok (.castore, 1) := by decide +kernel
theorem dX12_init_586 : decode cX12_init 586 = .ok (.dup, 1) := by decide +kernel
theorem dX12_init_587 : decode cX12_init 587 = .ok (.iconst 1, 1) := by decide +kernel
theorem dX12_init_588 : decode cX12_init 588 = .ok (.bipush 114, 2) := by decide +kernel
theorem dX12_init_590 : decode cX12_init 590 = .ok (.castore, 1) := by decide +kernel
theorem dX12_init_591 : decode cX12_init 591 = .ok (.dup, 1) := by decide +kernel
theorem dX12_init_592 : decode cX12_init 592 = .ok (.iconst 2, 1) := by decide +kernel
theorem dX12_init_593 : decode cX12_init 593 = .ok (.bipush 101, 2) := by decide +kernel
theorem dX12_init_595 : decode cX12_init 595 = .ok (.castore, 1) := by decide +kernel
theorem dX12_init_596 : decode cX12_init 596 = .ok (.dup, 1) := by decide +kernel
theorem dX12_init_597 : decode cX12_init 597 = .ok (.iconst 3, 1) := by decide +kernel
theorem dX12_init_598 : decode cX12_init 598 = .ok (.bipush 115, 2) := by decide +kernel
theorem dX12_init_600 : decode cX12_init 600 = .ok (.castore, 1) := by decide +kernel
theorem dX12_init_601 : decode cX12_init 601 = .ok (.dup, 1) := by decide +kernel
theorem dX12_init_602 : decode cX12_init 602 = .ok (.iconst 4, 1) := by decide +kernel
theorem dX12_init_603 : decode cX12_init 603 = .ok (.bipush 104, 2) := by decide +kernel
theorem dX12_init_605 : decode cX12_init 605 = .ok (.castore, 1) := by decide +kernel
theorem dX12_init_606 : decode cX12_init 606 = .ok (.putfield 72, 3) := by decide +kernel
theorem dX12_init_609 : decode cX12_init 609 = .ok (.aload_n 0, 1) := by decide +kernel
theorem dX12_init_610 : decode cX12_init 610 = .ok (.iconst 5, 1) := by decide +kernel
theorem dX12_init_611 : decode cX12_init 611 = .ok (.newarray .char, 2) := by decide +kernel
theorem dX12_init_613 : decode cX12_init 613 = .ok (.dup, 1) := by decide +kernel
theorem dX12_init_614 : decode cX12_init 614 = .ok (.iconst 0, 1) := by decide +kernel
theorem dX12_init_615 : decode cX12_init 615 = .ok (.bipush 115, 2) := by decide +kernel
theorem dX12_init_617 : decode cX12_init 617 = .ok (.castore, 1) := by decide +kernel
theorem dX12_init_618 : decode cX12_init 618 = .ok (.dup, 1) := by decide +kernel
theorem dX12_init_619 : decode cX12_init 619 = .ok (.iconst 1, 1) := by decide +kernel
theorem dX12_init_620 : decode cX12_init 620 = .ok (.bipush 97, 2) := by decide +kernel
theorem dX12_init_622 : decode cX12_init 622 = .ok (.castore, 1) := by decide +kernel
theorem dX12_init_623 : decode cX12_init 623 = .ok (.dup, 1) := by decide +kernel
theorem dX12_init_624 : decode cX12_init 624 = .ok (.iconst 2, 1) := by decide +kernel
theorem dX12_init_625 : decode cX12_init 625 = .ok (.bipush 118, 2) := by decide +kernel
theorem dX12_init_627 : decode cX12_init 627 = .ok (.castore, 1) := by decide +kernel
theorem dX12_init_628 : decode cX12_init 628 = .ok (.dup, 1) := by decide +kernel
theorem dX12_init_629 : decode cX12_init 629 = .ok (.iconst 3, 1) := by decide +kernel
theorem dX12_init_630 : decode cX12_init 630 = .ok (.bipush 101, 2) := by decide +kernel
theorem dX12_init_632 : decode cX12_init 632 = .ok (.castore, 1) := by decide +kernel
theorem dX12_init_633 : decode cX12_init 633 = .ok (.dup, 1) := by decide +kernel
theorem dX12_init_634 : decode cX12_init 634 = .ok (.iconst 4, 1) := by decide +kernel
theorem dX12_init_635 : decode cX12_init 635 = .ok (.bipush 100, 2) := by decide +kernel
theorem dX12_init_637 : decode cX12_init 637 = .ok (.castore, 1) := by decide +kernel
theorem dX12_init_638 : decode cX12_init 638 = .ok (.putfield 75, 3) := by decide +kernel
theorem dX12_init_641 : decode cX12_init 641 = .ok (.aload_n 0, 1) := by decide +kernel
theorem dX12_init_642 : decode cX12_init 642 = .ok (.iconst 4, 1) := by decide +kernel
theorem dX12_init_643 : decode cX12_init 643 = .ok (.newarray .char, 2) := by decide +kernel
theorem dX12_init_645 : decode cX12_init 645 = .ok (.dup, 1) := by decide +kernel
theorem dX12_init_646 : decode cX12_init 646 = .ok (.iconst 0, 1) := by decide +kernel
theorem dX12_init_647 : decode cX12_init 647 = .ok (.bipush 114, 2) := by decide +kernel
theorem dX12_init_649 : decode cX12_init 649 = .ok (.castore, 1) := by decide +kernel
theorem dX12_init_650 : decode cX12_init 650 = .ok (.dup, 1) := by decide +kernel
theorem dX12_init_651 : decode cX12_init 651 = .ok (.iconst 1, 1) := by decide +kernel
theorem dX12_init_652 : decode cX12_init 652 = .ok (.bipush 101, 2) := by decide +kernel
theorem dX12_init_654 : decode cX12_init 654 = .ok (.castore, 1) := by decide +kernel
theorem dX12_init_655 : decode cX12_init 655 = .ok (.dup, 1) := by decide +kernel
theorem dX12_init_656 : decode cX12_init 656 = .ok (.iconst 2, 1) := by decide +kernel
theorem dX12_init_657 : decode cX12_init 657 = .ok (.bipush 102, 2) := by decide +kernel
theorem dX12_init_659 : decode cX12_init 659 = .ok (.castore, 1) := by decide +kernel
theorem dX12_init_660 : decode cX12_init 660 = .ok (.dup, 1) := by decide +kernel
theorem dX12_init_661 : decode cX12_init 661 = .ok (.iconst 3, 1) := by decide +kernel
theorem dX12_init_662 : decode cX12_init 662 = .ok (.bipush 115, 2) := by decide +kernel
theorem dX12_init_664 : decode cX12_init 664 = .ok (.castore, 1) := by decide +kernel
theorem dX12_init_665 : decode cX12_init 665 = .ok (.putfield 78, 3) := by decide +kernel
theorem dX12_init_668 : decode cX12_init 668 = .ok (.aload_n 0, 1) := by decide +kernel
theorem dX12_init_669 : decode cX12_init 669 = .ok (.iconst 3, 1) := by decide +kernel
theorem dX12_init_670 : decode cX12_init 670 = .ok (.newarray .char, 2) := by decide +kernel
theorem dX12_init_672 : decode cX12_init 672 = .ok (.dup, 1) := by decide +kernel
theorem dX12_init_673 : decode cX12_init 673 = .ok (.iconst 0, 1) := by decide +kernel
theorem dX12_init_674 : decode cX12_init 674 = .ok (.bipush 107, 2) := by decide +kernel
theorem dX12_init_676 : decode cX12_init 676 = .ok (.castore, 1) := by decide +kernel
theorem dX12_init_677 : decode cX12_init 677 = .ok (.dup, 1) := by decide +kernel
theorem dX12_init_678 : decode cX12_init 678 = .ok (.iconst 1, 1) := by decide +kernel
theorem dX12_init_679 : decode cX12_init 679 = .ok (.bipush 101, 2) := by decide +kernel
theorem dX12_init_681 : decode cX12_init 681 = .ok (.castore, 1) := by decide +kernel
theorem dX12_init_682 : decode cX12_init 682 = .ok (.dup, 1) := by decide +kernel
theorem dX12_init_683 : decode cX12_init 683 = .ok (.iconst 2, 1) := by decide +kernel
theorem dX12_init_684 : decode cX12_init 684 = .ok (.bipush 121, 2) := by decide +kernel
theorem dX12_init_686 : decode cX12_init 686 = .ok (.castore, 1) := by decide +kernel
theorem dX12_init_687 : decode cX12_init 687 = .ok (.putfield 81, 3) := by decide +kernel
set_option maxHeartbeats 4000000 in
set_option maxRecDepth 100000 in
theorem cM_6 {p : Program} {l : Launch} {e : Env} {R : Room} {s : State} {m : MethodId} {args : Array Value} {below : List Frame} {meth : Method} {c : Code} {Q : State → Prop} {D : va_G} {A : Nat → Prop} {ls : Array Slot} {h0 : Nat} {T : va_W} (hx : p.tables.exec = Jvm.exec) (hb : c.code = cX12_init) (ht : ∀ w ∈ lw_gd, w.before args s = true) (hown : s.vm.findClass RX12 = some m.cls) (hin : meth.name = "<init>") (hK : va_K D vwCl (TY D) s) (hA : ∀ q : Nat, s.heap.size ≤ q → A q) (hRc : 80 ≤ R.cells) (hRs : 35050 ≤ R.slots) (hl : lv_has ls 1 [(0, .ref h0)]) {fs : List Value} (hlen : fs.length = 116) {H : Heap} {locs : List Loc} (hP : va_P D vwCl ((h0, .inr (12, fs)) :: T) H) (hD : va_D A ((h0, .inr (12, fs)) :: T)) (hS : va_S A s.heap H locs)
    (kk : ∀ (q_32 : Nat) (q_30 : Nat) (q_28 : Nat) (fs' : List Value) (H : Heap) (locs : List Loc), fs' = (((fs.set 22 (.ref q_28)).set 23 (.ref q_30)).set 24 (.ref q_32)) → va_P D vwCl ((h0, .inr (12, fs')) :: (q_32, .inl (D.1 14, 5, .inl (fun j => i2 (upZ (upZ (upZ (upZ (upZ (fun _ => 0) 0 108) 1 101) 2 118) 3 101) 4 108 j)))) :: (q_30, .inl (D.1 14, 4, .inl (fun j => i2 (upZ (upZ (upZ (upZ (fun _ => 0) 0 102) 1 114) 2 111) 3 109 j)))) :: (q_28, .inl (D.1 14, 5, .inl (fun j => i2 (upZ (upZ (upZ (upZ (upZ (fun _ => 0) 0 98) 1 108) 2 111) 3 99) 4 107 j)))) :: T) H → va_D A ((h0, .inr (12, fs')) :: (q_32, .inl (D.1 14, 5, .inl (fun j => i2 (upZ (upZ (upZ (upZ (upZ (fun _ => 0) 0 108) 1 101) 2 118) 3 101) 4 108 j)))) :: (q_30, .inl (D.1 14, 4, .inl (fun j => i2 (upZ (upZ (upZ (upZ (fun _ => 0) 0 102) 1 114) 2 111) 3 109 j)))) :: (q_28, .inl (D.1 14, 5, .inl (fun j => i2 (upZ (upZ (upZ (upZ (upZ (fun _ => 0) 0 98) 1 108) 2 111) 3 99) 4 107 j)))) :: T) → va_S A s.heap H locs → W p l e R s m args below meth c H locs 16 1673 Q (F0 m 463 ls [])) : W p l e R s m args below meth c H locs 13 1659 Q (F0 m 372 ls []) := by
  refine lv_aload_n hx hb dX12_init_372 rfl (lv_at hl 0 rfl) ?_
  refine lv_iconst (v := 5) hx hb dX12_init_373 (by decide) ?_
  refine va_newa (atype := .char) (a0 := (5, .inl (fun _ => 0))) (ty := .char) (N' := 5) hx hb (ht _ ac_char) rfl hK hP hD hS hA (fun _ => rfl) (by decide) (by decide) (by decide) (Nat.le_trans (Nat.le_of_ble_eq_true rfl) hRc) (Nat.le_trans (Nat.le_of_ble_eq_true rfl) hRs) dX12_init_374 (fun q_28 cA H hK2 hP hD hS => ?_)
  obtain rfl := z_cls_char hK hK2
  refine W.widen (k := 14) (n := 1664) (Nat.le_of_ble_eq_true rfl) (Nat.le_of_ble_eq_true rfl) ?_
  obtain ⟨hP, hD⟩ := z_rot hP hD
  have hP : va_P D vwCl ((h0, .inr (12, fs)) :: (q_28, .inl (D.1 14, 5, .inl (fun _ => i2 0))) :: T) H := hP
  have hD : va_D A ((h0, .inr (12, fs)) :: (q_28, .inl (D.1 14, 5, .inl (fun _ => i2 0))) :: T) := hD
  refine lv_dup hx hb dX12_init_376 rfl ?_
  refine lv_iconst (v := 0) hx hb dX12_init_377 (by decide) ?_
  refine lv_bipush (v := 98) hx hb dX12_init_378 (by decide) ?_
  refine va_cast hx hb hK hP hD hS 1 1 rfl rfl (z_in (by decide) (by decide)) dX12_init_380 (fun H locs hP hD hS => ?_)
  rw [c_i2 (F := fun _ => 0) (k := Int32.toNatClampNeg 0) (c := vp_nar .char 98) (v := 98) (by decide)] at hP hD
  have hP : va_P D vwCl ((h0, .inr (12, fs)) :: (q_28, .inl (D.1 14, 5, .inl (fun j => i2 (upZ (fun _ => 0) 0 98 j)))) :: T) H := hP
  have hD : va_D A ((h0, .inr (12, fs)) :: (q_28, .inl (D.1 14, 5, .inl (fun j => i2 (upZ (fun _ => 0) 0 98 j)))) :: T) := hD
  refine lv_dup hx hb dX12_init_381 rfl ?_
  refine lv_iconst (v := 1) hx hb dX12_init_382 (by decide) ?_
  refine lv_bipush (v := 108) hx hb dX12_init_383 (by decide) ?_
  refine va_cast hx hb hK hP hD hS 1 1 rfl rfl (z_in (by decide) (by decide)) dX12_init_385 (fun H locs hP hD hS => ?_)
  rw [c_i2 (F := upZ (fun _ => 0) 0 98) (k := Int32.toNatClampNeg 1) (c := vp_nar .char 108) (v := 108) (by decide)] at hP hD
  have hP : va_P D vwCl ((h0, .inr (12, fs)) :: (q_28, .inl (D.1 14, 5, .inl (fun j => i2 (upZ (upZ (fun _ => 0) 0 98) 1 108 j)))) :: T) H := hP
  have hD : va_D A ((h0, .inr (12, fs)) :: (q_28, .inl (D.1 14, 5, .inl (fun j => i2 (upZ (upZ (fun _ => 0) 0 98) 1 108 j)))) :: T) := hD
  refine lv_dup hx hb dX12_init_386 rfl ?_
  refine lv_iconst (v := 2) hx hb dX12_init_387 (by decide) ?_
  refine lv_bipush (v := 111) hx hb dX12_init_388 (by decide) ?_
  refine va_cast hx hb hK hP hD hS 1 1 rfl rfl (z_in (by decide) (by decide)) dX12_init_390 (fun H locs hP hD hS => ?_)
  rw [c_i2 (F := upZ (upZ (fun _ => 0) 0 98) 1 108) (k := Int32.toNatClampNeg 2) (c := vp_nar .char 111) (v := 111) (by decide)] at hP hD
  have hP : va_P D vwCl ((h0, .inr (12, fs)) :: (q_28, .inl (D.1 14, 5, .inl (fun j => i2 (upZ (upZ (upZ (fun _ => 0) 0 98) 1 108) 2 111 j)))) :: T) H := hP
  have hD : va_D A ((h0, .inr (12, fs)) :: (q_28, .inl (D.1 14, 5, .inl (fun j => i2 (upZ (upZ (upZ (fun _ => 0) 0 98) 1 108) 2 111 j)))) :: T) := hD
  refine lv_dup hx hb dX12_init_391 rfl ?_
  refine lv_iconst (v := 3) hx hb dX12_init_392 (by decide) ?_
  refine lv_bipush (v := 99) hx hb dX12_init_393 (by decide) ?_
  refine va_cast hx hb hK hP hD hS 1 1 rfl rfl (z_in (by decide) (by decide)) dX12_init_395 (fun H locs hP hD hS => ?_)
  rw [c_i2 (F := upZ (upZ (upZ (fun _ => 0) 0 98) 1 108) 2 111) (k := Int32.toNatClampNeg 3) (c := vp_nar .char 99) (v := 99) (by decide)] at hP hD
  have hP : va_P D vwCl ((h0, .inr (12, fs)) :: (q_28, .inl (D.1 14, 5, .inl (fun j => i2 (upZ (upZ (upZ (upZ (fun _ => 0) 0 98) 1 108) 2 111) 3 99 j)))) :: T) H := hP
  have hD : va_D A ((h0, .inr (12, fs)) :: (q_28, .inl (D.1 14, 5, .inl (fun j => i2 (upZ (upZ (upZ (upZ (fun _ => 0) 0 98) 1 108) 2 111) 3 99 j)))) :: T) := hD
  refine lv_dup hx hb dX12_init_396 rfl ?_
  refine lv_iconst (v := 4) hx hb dX12_init_397 (by decide) ?_
  refine lv_bipush (v := 107) hx hb dX12_init_398 (by decide) ?_
  refine va_cast hx hb hK hP hD hS 1 1 rfl rfl (z_in (by decide) (by decide)) dX12_init_400 (fun H locs hP hD hS => ?_)
  rw [c_i2 (F := upZ (upZ (upZ (upZ (fun _ => 0) 0 98) 1 108) 2 111) 3 99) (k := Int32.toNatClampNeg 4) (c := vp_nar .char 107) (v := 107) (by decide)] at hP hD
  have hP : va_P D vwCl ((h0, .inr (12, fs)) :: (q_28, .inl (D.1 14, 5, .inl (fun j => i2 (upZ (upZ (upZ (upZ (upZ (fun _ => 0) 0 98) 1 108) 2 111) 3 99) 4 107 j)))) :: T) H := hP
  have hD : va_D A ((h0, .inr (12, fs)) :: (q_28, .inl (D.1 14, 5, .inl (fun j => i2 (upZ (upZ (upZ (upZ (upZ (fun _ => 0) 0 98) 1 108) 2 111) 3 99) 4 107 j)))) :: T) := hD
  refine va_putF (D := D) (ci := 12) (v := .ref q_28) (ty := .array .char) (C := RX12) (T := TX12) (N := 116) hx hb ht inX12 tyX12 tyX12_ok nmX12 hown hK hP hD hS 0 rfl rfl 22 (by decide) (ht (.fieldLink RX12 54 "CloneVolumesModel" "blockWord" "[C") fl_X12_54) (fun _ h9 => h9) rfl hin rfl (by decide +kernel) rfl rfl (by rw [hlen]; decide) dX12_init_401 (fun H locs hP hD hS => ?_)
  have hP : va_P D vwCl ((h0, .inr (12, (fs.set 22 (.ref q_28)))) :: (q_28, .inl (D.1 14, 5, .inl (fun j => i2 (upZ (upZ (upZ (upZ (upZ (fun _ => 0) 0 98) 1 108) 2 111) 3 99) 4 107 j)))) :: T) H := hP
  have hD : va_D A ((h0, .inr (12, (fs.set 22 (.ref q_28)))) :: (q_28, .inl (D.1 14, 5, .inl (fun j => i2 (upZ (upZ (upZ (upZ (upZ (fun _ => 0) 0 98) 1 108) 2 111) 3 99) 4 107 j)))) :: T) := hD
  generalize hfs_29 : fs.set 22 (.ref q_28) = fs_29 at hP hD
  have hlen : fs_29.length = 116 := by rw [← hfs_29, List.length_set]; exact hlen
  have hP : va_P D vwCl ((h0, .inr (12, fs_29)) :: (q_28, .inl (D.1 14, 5, .inl (fun j => i2 (upZ (upZ (upZ (upZ (upZ (fun _ => 0) 0 98) 1 108) 2 111) 3 99) 4 107 j)))) :: T) H := hP
  have hD : va_D A ((h0, .inr (12, fs_29)) :: (q_28, .inl (D.1 14, 5, .inl (fun j => i2 (upZ (upZ (upZ (upZ (upZ (fun _ => 0) 0 98) 1 108) 2 111) 3 99) 4 107 j)))) :: T) := hD
  refine lv_aload_n hx hb dX12_init_404 rfl (lv_at hl 0 rfl) ?_
  refine lv_iconst (v := 4) hx hb dX12_init_405 (by decide) ?_
  refine va_newa (atype := .char) (a0 := (4, .inl (fun _ => 0))) (ty := .char) (N' := 4) hx hb (ht _ ac_char) rfl hK hP hD hS hA (fun _ => rfl) (by decide) (by decide) (by decide) (Nat.le_trans (Nat.le_of_ble_eq_true rfl) hRc) (Nat.le_trans (Nat.le_of_ble_eq_true rfl) hRs) dX12_init_406 (fun q_30 cA H hK2 hP hD hS => ?_)
  obtain rfl := z_cls_char hK hK2
  refine W.widen (k := 15) (n := 1668) (Nat.le_of_ble_eq_true rfl) (Nat.le_of_ble_eq_true rfl) ?_
  obtain ⟨hP, hD⟩ := z_rot hP hD
  have hP : va_P D vwCl ((h0, .inr (12, fs_29)) :: (q_30, .inl (D.1 14, 4, .inl (fun _ => i2 0))) :: (q_28, .inl (D.1 14, 5, .inl (fun j => i2 (upZ (upZ (upZ (upZ (upZ (fun _ => 0) 0 98) 1 108) 2 111) 3 99) 4 107 j)))) :: T) H := hP
  have hD : va_D A ((h0, .inr (12, fs_29)) :: (q_30, .inl (D.1 14, 4, .inl (fun _ => i2 0))) :: (q_28, .inl (D.1 14, 5, .inl (fun j => i2 (upZ (upZ (upZ (upZ (upZ (fun _ => 0) 0 98) 1 108) 2 111) 3 99) 4 107 j)))) :: T) := hD
  refine lv_dup hx hb dX12_init_408 rfl ?_
  refine lv_iconst (v := 0) hx hb dX12_init_409 (by decide) ?_
  refine lv_bipush (v := 102) hx hb dX12_init_410 (by decide) ?_
  refine va_cast hx hb hK hP hD hS 1 1 rfl rfl (z_in (by decide) (by decide)) dX12_init_412 (fun H locs hP hD hS => ?_)
  rw [c_i2 (F := fun _ => 0) (k := Int32.toNatClampNeg 0) (c := vp_nar .char 102) (v := 102) (by decide)] at hP hD
  have hP : va_P D vwCl ((h0, .inr (12, fs_29)) :: (q_30, .inl (D.1 14, 4, .inl (fun j => i2 (upZ (fun _ => 0) 0 102 j)))) :: (q_28, .inl (D.1 14, 5, .inl (fun j => i2 (upZ (upZ (upZ (upZ (upZ (fun _ => 0) 0 98) 1 108) 2 111) 3 99) 4 107 j)))) :: T) H := hP
  have hD : va_D A ((h0, .inr (12, fs_29)) :: (q_30, .inl (D.1 14, 4, .inl (fun j => i2 (upZ (fun _ => 0) 0 102 j)))) :: (q_28, .inl (D.1 14, 5, .inl (fun j => i2 (upZ (upZ (upZ (upZ (upZ (fun _ => 0) 0 98) 1 108) 2 111) 3 99) 4 107 j)))) :: T) := hD
  refine lv_dup hx hb dX12_init_413 rfl ?_
  refine lv_iconst (v := 1) hx hb dX12_init_414 (by decide) ?_
  refine lv_bipush (v := 114) hx hb dX12_init_415 (by decide) ?_
  refine va_cast hx hb hK hP hD hS 1 1 rfl rfl (z_in (by decide) (by decide)) dX12_init_417 (fun H locs hP hD hS => ?_)
  rw [c_i2 (F := upZ (fun _ => 0) 0 102) (k := Int32.toNatClampNeg 1) (c := vp_nar .char 114) (v := 114) (by decide)] at hP hD
  have hP : va_P D vwCl ((h0, .inr (12, fs_29)) :: (q_30, .inl (D.1 14, 4, .inl (fun j => i2 (upZ (upZ (fun _ => 0) 0 102) 1 114 j)))) :: (q_28, .inl (D.1 14, 5, .inl (fun j => i2 (upZ (upZ (upZ (upZ (upZ (fun _ => 0) 0 98) 1 108) 2 111) 3 99) 4 107 j)))) :: T) H := hP
  have hD : va_D A ((h0, .inr (12, fs_29)) :: (q_30, .inl (D.1 14, 4, .inl (fun j => i2 (upZ (upZ (fun _ => 0) 0 102) 1 114 j)))) :: (q_28, .inl (D.1 14, 5, .inl (fun j => i2 (upZ (upZ (upZ (upZ (upZ (fun _ => 0) 0 98) 1 108) 2 111) 3 99) 4 107 j)))) :: T) := hD
  refine lv_dup hx hb dX12_init_418 rfl ?_
  refine lv_iconst (v := 2) hx hb dX12_init_419 (by decide) ?_
  refine lv_bipush (v := 111) hx hb dX12_init_420 (by decide) ?_
  refine va_cast hx hb hK hP hD hS 1 1 rfl rfl (z_in (by decide) (by decide)) dX12_init_422 (fun H locs hP hD hS => ?_)
  rw [c_i2 (F := upZ (upZ (fun _ => 0) 0 102) 1 114) (k := Int32.toNatClampNeg 2) (c := vp_nar .char 111) (v := 111) (by decide)] at hP hD
  have hP : va_P D vwCl ((h0, .inr (12, fs_29)) :: (q_30, .inl (D.1 14, 4, .inl (fun j => i2 (upZ (upZ (upZ (fun _ => 0) 0 102) 1 114) 2 111 j)))) :: (q_28, .inl (D.1 14, 5, .inl (fun j => i2 (upZ (upZ (upZ (upZ (upZ (fun _ => 0) 0 98) 1 108) 2 111) 3 99) 4 107 j)))) :: T) H := hP
  have hD : va_D A ((h0, .inr (12, fs_29)) :: (q_30, .inl (D.1 14, 4, .inl (fun j => i2 (upZ (upZ (upZ (fun _ => 0) 0 102) 1 114) 2 111 j)))) :: (q_28, .inl (D.1 14, 5, .inl (fun j => i2 (upZ (upZ (upZ (upZ (upZ (fun _ => 0) 0 98) 1 108) 2 111) 3 99) 4 107 j)))) :: T) := hD
  refine lv_dup hx hb dX12_init_423 rfl ?_
  refine lv_iconst (v := 3) hx hb dX12_init_424 (by decide) ?_
  refine lv_bipush (v := 109) hx hb dX12_init_425 (by decide) ?_
  refine va_cast hx hb hK hP hD hS 1 1 rfl rfl (z_in (by decide) (by decide)) dX12_init_427 (fun H locs hP hD hS => ?_)
  rw [c_i2 (F := upZ (upZ (upZ (fun _ => 0) 0 102) 1 114) 2 111) (k := Int32.toNatClampNeg 3) (c := vp_nar .char 109) (v := 109) (by decide)] at hP hD
  have hP : va_P D vwCl ((h0, .inr (12, fs_29)) :: (q_30, .inl (D.1 14, 4, .inl (fun j => i2 (upZ (upZ (upZ (upZ (fun _ => 0) 0 102) 1 114) 2 111) 3 109 j)))) :: (q_28, .inl (D.1 14, 5, .inl (fun j => i2 (upZ (upZ (upZ (upZ (upZ (fun _ => 0) 0 98) 1 108) 2 111) 3 99) 4 107 j)))) :: T) H := hP
  have hD : va_D A ((h0, .inr (12, fs_29)) :: (q_30, .inl (D.1 14, 4, .inl (fun j => i2 (upZ (upZ (upZ (upZ (fun _ => 0) 0 102) 1 114) 2 111) 3 109 j)))) :: (q_28, .inl (D.1 14, 5, .inl (fun j => i2 (upZ (upZ (upZ (upZ (upZ (fun _ => 0) 0 98) 1 108) 2 111) 3 99) 4 107 j)))) :: T) := hD
  refine va_putF (D := D) (ci := 12) (v := .ref q_30) (ty := .array .char) (C := RX12) (T := TX12) (N := 116) hx hb ht inX12 tyX12 tyX12_ok nmX12 hown hK hP hD hS 0 rfl rfl 23 (by decide) (ht (.fieldLink RX12 57 "CloneVolumesModel" "fromWord" "[C") fl_X12_57) (fun _ h9 => h9) rfl hin rfl (by decide +kernel) rfl rfl (by rw [hlen]; decide) dX12_init_428 (fun H locs hP hD hS => ?_)
  have hP : va_P D vwCl ((h0, .inr (12, (fs_29.set 23 (.ref q_30)))) :: (q_30, .inl (D.1 14, 4, .inl (fun j => i2 (upZ (upZ (upZ (upZ (fun _ => 0) 0 102) 1 114) 2 111) 3 109 j)))) :: (q_28, .inl (D.1 14, 5, .inl (fun j => i2 (upZ (upZ (upZ (upZ (upZ (fun _ => 0) 0 98) 1 108) 2 111) 3 99) 4 107 j)))) :: T) H := hP
  have hD : va_D A ((h0, .inr (12, (fs_29.set 23 (.ref q_30)))) :: (q_30, .inl (D.1 14, 4, .inl (fun j => i2 (upZ (upZ (upZ (upZ (fun _ => 0) 0 102) 1 114) 2 111) 3 109 j)))) :: (q_28, .inl (D.1 14, 5, .inl (fun j => i2 (upZ (upZ (upZ (upZ (upZ (fun _ => 0) 0 98) 1 108) 2 111) 3 99) 4 107 j)))) :: T) := hD
  generalize hfs_31 : fs_29.set 23 (.ref q_30) = fs_31 at hP hD
  have hlen : fs_31.length = 116 := by rw [← hfs_31, List.length_set]; exact hlen
  have hP : va_P D vwCl ((h0, .inr (12, fs_31)) :: (q_30, .inl (D.1 14, 4, .inl (fun j => i2 (upZ (upZ (upZ (upZ (fun _ => 0) 0 102) 1 114) 2 111) 3 109 j)))) :: (q_28, .inl (D.1 14, 5, .inl (fun j => i2 (upZ (upZ (upZ (upZ (upZ (fun _ => 0) 0 98) 1 108) 2 111) 3 99) 4 107 j)))) :: T) H := hP
  have hD : va_D A ((h0, .inr (12, fs_31)) :: (q_30, .inl (D.1 14, 4, .inl (fun j => i2 (upZ (upZ (upZ (upZ (fun _ => 0) 0 102) 1 114) 2 111) 3 109 j)))) :: (q_28, .inl (D.1 14, 5, .inl (fun j => i2 (upZ (upZ (upZ (upZ (upZ (fun _ => 0) 0 98) 1 108) 2 111) 3 99) 4 107 j)))) :: T) := hD
  refine lv_aload_n hx hb dX12_init_431 rfl (lv_at hl 0 rfl) ?_
  refine lv_iconst (v := 5) hx hb dX12_init_432 (by decide) ?_
  refine va_newa (atype := .char) (a0 := (5, .inl (fun _ => 0))) (ty := .char) (N' := 5) hx hb (ht _ ac_char) rfl hK hP hD hS hA (fun _ => rfl) (by decide) (by decide) (by decide) (Nat.le_trans (Nat.le_of_ble_eq_true rfl) hRc) (Nat.le_trans (Nat.le_of_ble_eq_true rfl) hRs) dX12_init_433 (fun q_32 cA H hK2 hP hD hS => ?_)
  obtain rfl := z_cls_char hK hK2
  refine W.widen (k := 16) (n := 1673) (Nat.le_of_ble_eq_true rfl) (Nat.le_of_ble_eq_true rfl) ?_
  obtain ⟨hP, hD⟩ := z_rot hP hD
  have hP : va_P D vwCl ((h0, .inr (12, fs_31)) :: (q_32, .inl (D.1 14, 5, .inl (fun _ => i2 0))) :: (q_30, .inl (D.1 14, 4, .inl (fun j => i2 (upZ (upZ (upZ (upZ (fun _ => 0) 0 102) 1 114) 2 111) 3 109 j)))) :: (q_28, .inl (D.1 14, 5, .inl (fun j => i2 (upZ (upZ (upZ (upZ (upZ (fun _ => 0) 0 98) 1 108) 2 111) 3 99) 4 107 j)))) :: T) H := hP
  have hD : va_D A ((h0, .inr (12, fs_31)) :: (q_32, .inl (D.1 14, 5, .inl (fun _ => i2 0))) :: (q_30, .inl (D.1 14, 4, .inl (fun j => i2 (upZ (upZ (upZ (upZ (fun _ => 0) 0 102) 1 114) 2 111) 3 109 j)))) :: (q_28, .inl (D.1 14, 5, .inl (fun j => i2 (upZ (upZ (upZ (upZ (upZ (fun _ => 0) 0 98) 1 108) 2 111) 3 99) 4 107 j)))) :: T) := hD
  refine lv_dup hx hb dX12_init_435 rfl ?_
  refine lv_iconst (v := 0) hx hb dX12_init_436 (by decide) ?_
  refine lv_bipush (v := 108) hx hb dX12_init_437 (by decide) ?_
  refine va_cast hx hb hK hP hD hS 1 1 rfl rfl (z_in (by decide) (by decide)) dX12_init_439 (fun H locs hP hD hS => ?_)
  rw [c_i2 (F := fun _ => 0) (k := Int32.toNatClampNeg 0) (c := vp_nar .char 108) (v := 108) (by decide)] at hP hD
  have hP : va_P D vwCl ((h0, .inr (12, fs_31)) :: (q_32, .inl (D.1 14, 5, .inl (fun j => i2 (upZ (fun _ => 0) 0 108 j)))) :: (q_30, .inl (D.1 14, 4, .inl (fun j => i2 (upZ (upZ (upZ (upZ (fun _ => 0) 0 102) 1 114) 2 111) 3 109 j)))) :: (q_28, .inl (D.1 14, 5, .inl (fun j => i2 (upZ (upZ (upZ (upZ (upZ (fun _ => 0) 0 98) 1 108) 2 111) 3 99) 4 107 j)))) :: T) H := hP
  have hD : va_D A ((h0, .inr (12, fs_31)) :: (q_32, .inl (D.1 14, 5, .inl (fun j => i2 (upZ (fun _ => 0) 0 108 j)))) :: (q_30, .inl (D.1 14, 4, .inl (fun j => i2 (upZ (upZ (upZ (upZ (fun _ => 0) 0 102) 1 114) 2 111) 3 109 j)))) :: (q_28, .inl (D.1 14, 5, .inl (fun j => i2 (upZ (upZ (upZ (upZ (upZ (fun _ => 0) 0 98) 1 108) 2 111) 3 99) 4 107 j)))) :: T) := hD
  refine lv_dup hx hb dX12_init_440 rfl ?_
  refine lv_iconst (v := 1) hx hb dX12_init_441 (by decide) ?_
  refine lv_bipush (v := 101) hx hb dX12_init_442 (by decide) ?_
  refine va_cast hx hb hK hP hD hS 1 1 rfl rfl (z_in (by decide) (by decide)) dX12_init_444 (fun H locs hP hD hS => ?_)
  rw [c_i2 (F := upZ (fun _ => 0) 0 108) (k := Int32.toNatClampNeg 1) (c := vp_nar .char 101) (v := 101) (by decide)] at hP hD
  have hP : va_P D vwCl ((h0, .inr (12, fs_31)) :: (q_32, .inl (D.1 14, 5, .inl (fun j => i2 (upZ (upZ (fun _ => 0) 0 108) 1 101 j)))) :: (q_30, .inl (D.1 14, 4, .inl (fun j => i2 (upZ (upZ (upZ (upZ (fun _ => 0) 0 102) 1 114) 2 111) 3 109 j)))) :: (q_28, .inl (D.1 14, 5, .inl (fun j => i2 (upZ (upZ (upZ (upZ (upZ (fun _ => 0) 0 98) 1 108) 2 111) 3 99) 4 107 j)))) :: T) H := hP
  have hD : va_D A ((h0, .inr (12, fs_31)) :: (q_32, .inl (D.1 14, 5, .inl (fun j => i2 (upZ (upZ (fun _ => 0) 0 108) 1 101 j)))) :: (q_30, .inl (D.1 14, 4, .inl (fun j => i2 (upZ (upZ (upZ (upZ (fun _ => 0) 0 102) 1 114) 2 111) 3 109 j)))) :: (q_28, .inl (D.1 14, 5, .inl (fun j => i2 (upZ (upZ (upZ (upZ (upZ (fun _ => 0) 0 98) 1 108) 2 111) 3 99) 4 107 j)))) :: T) := hD
  refine lv_dup hx hb dX12_init_445 rfl ?_
  refine lv_iconst (v := 2) hx hb dX12_init_446 (by decide) ?_
  refine lv_bipush (v := 118) hx hb dX12_init_447 (by decide) ?_
  refine va_cast hx hb hK hP hD hS 1 1 rfl rfl (z_in (by decide) (by decide)) dX12_init_449 (fun H locs hP hD hS => ?_)
  rw [c_i2 (F := upZ (upZ (fun _ => 0) 0 108) 1 101) (k := Int32.toNatClampNeg 2) (c := vp_nar .char 118) (v := 118) (by decide)] at hP hD
  have hP : va_P D vwCl ((h0, .inr (12, fs_31)) :: (q_32, .inl (D.1 14, 5, .inl (fun j => i2 (upZ (upZ (upZ (fun _ => 0) 0 108) 1 101) 2 118 j)))) :: (q_30, .inl (D.1 14, 4, .inl (fun j => i2 (upZ (upZ (upZ (upZ (fun _ => 0) 0 102) 1 114) 2 111) 3 109 j)))) :: (q_28, .inl (D.1 14, 5, .inl (fun j => i2 (upZ (upZ (upZ (upZ (upZ (fun _ => 0) 0 98) 1 108) 2 111) 3 99) 4 107 j)))) :: T) H := hP
  have hD : va_D A ((h0, .inr (12, fs_31)) :: (q_32, .inl (D.1 14, 5, .inl (fun j => i2 (upZ (upZ (upZ (fun _ => 0) 0 108) 1 101) 2 118 j)))) :: (q_30, .inl (D.1 14, 4, .inl (fun j => i2 (upZ (upZ (upZ (upZ (fun _ => 0) 0 102) 1 114) 2 111) 3 109 j)))) :: (q_28, .inl (D.1 14, 5, .inl (fun j => i2 (upZ (upZ (upZ (upZ (upZ (fun _ => 0) 0 98) 1 108) 2 111) 3 99) 4 107 j)))) :: T) := hD
  refine lv_dup hx hb dX12_init_450 rfl ?_
  refine lv_iconst (v := 3) hx hb dX12_init_451 (by decide) ?_
  refine lv_bipush (v := 101) hx hb dX12_init_452 (by decide) ?_
  refine va_cast hx hb hK hP hD hS 1 1 rfl rfl (z_in (by decide) (by decide)) dX12_init_454 (fun H locs hP hD hS => ?_)
  rw [c_i2 (F := upZ (upZ (upZ (fun _ => 0) 0 108) 1 101) 2 118) (k := Int32.toNatClampNeg 3) (c := vp_nar .char 101) (v := 101) (by decide)] at hP hD
  have hP : va_P D vwCl ((h0, .inr (12, fs_31)) :: (q_32, .inl (D.1 14, 5, .inl (fun j => i2 (upZ (upZ (upZ (upZ (fun _ => 0) 0 108) 1 101) 2 118) 3 101 j)))) :: (q_30, .inl (D.1 14, 4, .inl (fun j => i2 (upZ (upZ (upZ (upZ (fun _ => 0) 0 102) 1 114) 2 111) 3 109 j)))) :: (q_28, .inl (D.1 14, 5, .inl (fun j => i2 (upZ (upZ (upZ (upZ (upZ (fun _ => 0) 0 98) 1 108) 2 111) 3 99) 4 107 j)))) :: T) H := hP
  have hD : va_D A ((h0, .inr (12, fs_31)) :: (q_32, .inl (D.1 14, 5, .inl (fun j => i2 (upZ (upZ (upZ (upZ (fun _ => 0) 0 108) 1 101) 2 118) 3 101 j)))) :: (q_30, .inl (D.1 14, 4, .inl (fun j => i2 (upZ (upZ (upZ (upZ (fun _ => 0) 0 102) 1 114) 2 111) 3 109 j)))) :: (q_28, .inl (D.1 14, 5, .inl (fun j => i2 (upZ (upZ (upZ (upZ (upZ (fun _ => 0) 0 98) 1 108) 2 111) 3 99) 4 107 j)))) :: T) := hD
  refine lv_dup hx hb dX12_init_455 rfl ?_
  refine lv_iconst (v := 4) hx hb dX12_init_456 (by decide) ?_
  refine lv_bipush (v := 108) hx hb dX12_init_457 (by decide) ?_
  refine va_cast hx hb hK hP hD hS 1 1 rfl rfl (z_in (by decide) (by decide)) dX12_init_459 (fun H locs hP hD hS => ?_)
  rw [c_i2 (F := upZ (upZ (upZ (upZ (fun _ => 0) 0 108) 1 101) 2 118) 3 101) (k := Int32.toNatClampNeg 4) (c := vp_nar .char 108) (v := 108) (by decide)] at hP hD
  have hP : va_P D vwCl ((h0, .inr (12, fs_31)) :: (q_32, .inl (D.1 14, 5, .inl (fun j => i2 (upZ (upZ (upZ (upZ (upZ (fun _ => 0) 0 108) 1 101) 2 118) 3 101) 4 108 j)))) :: (q_30, .inl (D.1 14, 4, .inl (fun j => i2 (upZ (upZ (upZ (upZ (fun _ => 0) 0 102) 1 114) 2 111) 3 109 j)))) :: (q_28, .inl (D.1 14, 5, .inl (fun j => i2 (upZ (upZ (upZ (upZ (upZ (fun _ => 0) 0 98) 1 108) 2 111) 3 99) 4 107 j)))) :: T) H := hP
  have hD : va_D A ((h0, .inr (12, fs_31)) :: (q_32, .inl (D.1 14, 5, .inl (fun j => i2 (upZ (upZ (upZ (upZ (upZ (fun _ => 0) 0 108) 1 101) 2 118) 3 101) 4 108 j)))) :: (q_30, .inl (D.1 14, 4, .inl (fun j => i2 (upZ (upZ (upZ (upZ (fun _ => 0) 0 102) 1 114) 2 111) 3 109 j)))) :: (q_28, .inl (D.1 14, 5, .inl (fun j => i2 (upZ (upZ (upZ (upZ (upZ (fun _ => 0) 0 98) 1 108) 2 111) 3 99) 4 107 j)))) :: T) := hD
  refine va_putF (D := D) (ci := 12) (v := .ref q_32) (ty := .array .char) (C := RX12) (T := TX12) (N := 116) hx hb ht inX12 tyX12 tyX12_ok nmX12 hown hK hP hD hS 0 rfl rfl 24 (by decide) (ht (.fieldLink RX12 60 "CloneVolumesModel" "levelWord" "[C") fl_X12_60) (fun _ h9 => h9) rfl hin rfl (by decide +kernel) rfl rfl (by rw [hlen]; decide) dX12_init_460 (fun H locs hP hD hS => ?_)
  have hP : va_P D vwCl ((h0, .inr (12, (fs_31.set 24 (.ref q_32)))) :: (q_32, .inl (D.1 14, 5, .inl (fun j => i2 (upZ (upZ (upZ (upZ (upZ (fun _ => 0) 0 108) 1 101) 2 118) 3 101) 4 108 j)))) :: (q_30, .inl (D.1 14, 4, .inl (fun j => i2 (upZ (upZ (upZ (upZ (fun _ => 0) 0 102) 1 114) 2 111) 3 109 j)))) :: (q_28, .inl (D.1 14, 5, .inl (fun j => i2 (upZ (upZ (upZ (upZ (upZ (fun _ => 0) 0 98) 1 108) 2 111) 3 99) 4 107 j)))) :: T) H := hP
  have hD : va_D A ((h0, .inr (12, (fs_31.set 24 (.ref q_32)))) :: (q_32, .inl (D.1 14, 5, .inl (fun j => i2 (upZ (upZ (upZ (upZ (upZ (fun _ => 0) 0 108) 1 101) 2 118) 3 101) 4 108 j)))) :: (q_30, .inl (D.1 14, 4, .inl (fun j => i2 (upZ (upZ (upZ (upZ (fun _ => 0) 0 102) 1 114) 2 111) 3 109 j)))) :: (q_28, .inl (D.1 14, 5, .inl (fun j => i2 (upZ (upZ (upZ (upZ (upZ (fun _ => 0) 0 98) 1 108) 2 111) 3 99) 4 107 j)))) :: T) := hD
  generalize hfs_33 : fs_31.set 24 (.ref q_32) = fs_33 at hP hD
  have hlen : fs_33.length = 116 := by rw [← hfs_33, List.length_set]; exact hlen
  have hP : va_P D vwCl ((h0, .inr (12, fs_33)) :: (q_32, .inl (D.1 14, 5, .inl (fun j => i2 (upZ (upZ (upZ (upZ (upZ (fun _ => 0) 0 108) 1 101) 2 118) 3 101) 4 108 j)))) :: (q_30, .inl (D.1 14, 4, .inl (fun j => i2 (upZ (upZ (upZ (upZ (fun _ => 0) 0 102) 1 114) 2 111) 3 109 j)))) :: (q_28, .inl (D.1 14, 5, .inl (fun j => i2 (upZ (upZ (upZ (upZ (upZ (fun _ => 0) 0 98) 1 108) 2 111) 3 99) 4 107 j)))) :: T) H := hP
  have hD : va_D A ((h0, .inr (12, fs_33)) :: (q_32, .inl (D.1 14, 5, .inl (fun j => i2 (upZ (upZ (upZ (upZ (upZ (fun _ => 0) 0 108) 1 101) 2 118) 3 101) 4 108 j)))) :: (q_30, .inl (D.1 14, 4, .inl (fun j => i2 (upZ (upZ (upZ (upZ (fun _ => 0) 0 102) 1 114) 2 111) 3 109 j)))) :: (q_28, .inl (D.1 14, 5, .inl (fun j => i2 (upZ (upZ (upZ (upZ (upZ (fun _ => 0) 0 98) 1 108) 2 111) 3 99) 4 107 j)))) :: T) := hD
  exact kk q_32 q_30 q_28 fs_33 _ _ (by rw [← hfs_33, ← hfs_31, ← hfs_29]) hP hD hS
set_option maxHeartbeats 4000000 in
set_option maxRecDepth 100000 in
theorem cM_7 {p : Program} {l : Launch} {e : Env} {R : Room} {s : State} {m : MethodId} {args : Array Value} {below : List Frame} {meth : Method} {c : Code} {Q : State → Prop} {D : va_G} {A : Nat → Prop} {ls : Array Slot} {h0 : Nat} {T : va_W} (hx : p.tables.exec = Jvm.exec) (hb : c.code = cX12_init) (ht : ∀ w ∈ lw_gd, w.before args s = true) (hown : s.vm.findClass RX12 = some m.cls) (hin : meth.name = "<init>") (hK : va_K D vwCl (TY D) s) (hA : ∀ q : Nat, s.heap.size ≤ q → A q) (hRc : 80 ≤ R.cells) (hRs : 35050 ≤ R.slots) (hl : lv_has ls 1 [(0, .ref h0)]) {fs : List Value} (hlen : fs.length = 116) {H : Heap} {locs : List Loc} (hP : va_P D vwCl ((h0, .inr (12, fs)) :: T) H) (hD : va_D A ((h0, .inr (12, fs)) :: T)) (hS : va_S A s.heap H locs)
    (kk : ∀ (q_36 : Nat) (q_34 : Nat) (fs' : List Value) (H : Heap) (locs : List Loc), fs' = ((fs.set 25 (.ref q_34)).set 26 (.ref q_36)) → va_P D vwCl ((h0, .inr (12, fs')) :: (q_36, .inl (D.1 14, 6, .inl (fun j => i2 (upZ (upZ (upZ (upZ (upZ (upZ (fun _ => 0) 0 110) 1 117) 2 109) 3 98) 4 101) 5 114 j)))) :: (q_34, .inl (D.1 14, 7, .inl (fun j => i2 (upZ (upZ (upZ (upZ (upZ (upZ (upZ (fun _ => 0) 0 101) 1 110) 2 116) 3 114) 4 105) 5 101) 6 115 j)))) :: T) H → va_D A ((h0, .inr (12, fs')) :: (q_36, .inl (D.1 14, 6, .inl (fun j => i2 (upZ (upZ (upZ (upZ (upZ (upZ (fun _ => 0) 0 110) 1 117) 2 109) 3 98) 4 101) 5 114 j)))) :: (q_34, .inl (D.1 14, 7, .inl (fun j => i2 (upZ (upZ (upZ (upZ (upZ (upZ (upZ (fun _ => 0) 0 101) 1 110) 2 116) 3 114) 4 105) 5 101) 6 115 j)))) :: T) → va_S A s.heap H locs → W p l e R s m args below meth c H locs 18 1686 Q (F0 m 545 ls [])) : W p l e R s m args below meth c H locs 16 1673 Q (F0 m 463 ls []) := by
  refine lv_aload_n hx hb dX12_init_463 rfl (lv_at hl 0 rfl) ?_
  refine lv_bipush (v := 7) hx hb dX12_init_464 (by decide) ?_
  refine va_newa (atype := .char) (a0 := (7, .inl (fun _ => 0))) (ty := .char) (N' := 7) hx hb (ht _ ac_char) rfl hK hP hD hS hA (fun _ => rfl) (by decide) (by decide) (by decide) (Nat.le_trans (Nat.le_of_ble_eq_true rfl) hRc) (Nat.le_trans (Nat.le_of_ble_eq_true rfl) hRs) dX12_init_466 (fun q_34 cA H hK2 hP hD hS => ?_)
  obtain rfl := z_cls_char hK hK2
  refine W.widen (k := 17) (n := 1680) (Nat.le_of_ble_eq_true rfl) (Nat.le_of_ble_eq_true rfl) ?_
  obtain ⟨hP, hD⟩ := z_rot hP hD
  have hP : va_P D vwCl ((h0, .inr (12, fs)) :: (q_34, .inl (D.1 14, 7, .inl (fun _ => i2 0))) :: T) H := hP
  have hD : va_D A ((h0, .inr (12, fs)) :: (q_34, .inl (D.1 14, 7, .inl (fun _ => i2 0))) :: T) := hD
  refine lv_dup hx hb dX12_init_468 rfl ?_
  refine lv_iconst (v := 0) hx hb dX12_init_469 (by decide) ?_
  refine lv_bipush (v := 101) hx hb dX12_init_470 (by decide) ?_
  refine va_cast hx hb hK hP hD hS 1 1 rfl rfl (z_in (by decide) (by decide)) dX12_init_472 (fun H locs hP hD hS => ?_)
  rw [c_i2 (F := fun _ => 0) (k := Int32.toNatClampNeg 0) (c := vp_nar .char 101) (v := 101) (by decide)] at hP hD
  have hP : va_P D vwCl ((h0, .inr (12, fs)) :: (q_34, .inl (D.1 14, 7, .inl (fun j => i2 (upZ (fun _ => 0) 0 101 j)))) :: T) H := hP
  have hD : va_D A ((h0, .inr (12, fs)) :: (q_34, .inl (D.1 14, 7, .inl (fun j => i2 (upZ (fun _ => 0) 0 101 j)))) :: T) := hD
  refine lv_dup hx hb dX12_init_473 rfl ?_
  refine lv_iconst (v := 1) hx hb dX12_init_474 (by decide) ?_
  refine lv_bipush (v := 110) hx hb dX12_init_475 (by decide) ?_
  refine va_cast hx hb hK hP hD hS 1 1 rfl rfl (z_in (by decide) (by decide)) dX12_init_477 (fun H locs hP hD hS => ?_)
  rw [c_i2 (F := upZ (fun _ => 0) 0 101) (k := Int32.toNatClampNeg 1) (c := vp_nar .char 110) (v := 110) (by decide)] at hP hD
  have hP : va_P D vwCl ((h0, .inr (12, fs)) :: (q_34, .inl (D.1 14, 7, .inl (fun j => i2 (upZ (upZ (fun _ => 0) 0 101) 1 110 j)))) :: T) H := hP
  have hD : va_D A ((h0, .inr (12, fs)) :: (q_34, .inl (D.1 14, 7, .inl (fun j => i2 (upZ (upZ (fun _ => 0) 0 101) 1 110 j)))) :: T) := hD
  refine lv_dup hx hb dX12_init_478 rfl ?_
  refine lv_iconst (v := 2) hx hb dX12_init_479 (by decide) ?_
  refine lv_bipush (v := 116) hx hb dX12_init_480 (by decide) ?_
  refine va_cast hx hb hK hP hD hS 1 1 rfl rfl (z_in (by decide) (by decide)) dX12_init_482 (fun H locs hP hD hS => ?_)
  rw [c_i2 (F := upZ (upZ (fun _ => 0) 0 101) 1 110) (k := Int32.toNatClampNeg 2) (c := vp_nar .char 116) (v := 116) (by decide)] at hP hD
  have hP : va_P D vwCl ((h0, .inr (12, fs)) :: (q_34, .inl (D.1 14, 7, .inl (fun j => i2 (upZ (upZ (upZ (fun _ => 0) 0 101) 1 110) 2 116 j)))) :: T) H := hP
  have hD : va_D A ((h0, .inr (12, fs)) :: (q_34, .inl (D.1 14, 7, .inl (fun j => i2 (upZ (upZ (upZ (fun _ => 0) 0 101) 1 110) 2 116 j)))) :: T) := hD
  refine lv_dup hx hb dX12_init_483 rfl ?_
  refine lv_iconst (v := 3) hx hb dX12_init_484 (by decide) ?_
  refine lv_bipush (v := 114) hx hb dX12_init_485 (by decide) ?_
  refine va_cast hx hb hK hP hD hS 1 1 rfl rfl (z_in (by decide) (by decide)) dX12_init_487 (fun H locs hP hD hS => ?_)
  rw [c_i2 (F := upZ (upZ (upZ (fun _ => 0) 0 101) 1 110) 2 116) (k := Int32.toNatClampNeg 3) (c := vp_nar .char 114) (v := 114) (by decide)] at hP hD
  have hP : va_P D vwCl ((h0, .inr (12, fs)) :: (q_34, .inl (D.1 14, 7, .inl (fun j => i2 (upZ (upZ (upZ (upZ (fun _ => 0) 0 101) 1 110) 2 116) 3 114 j)))) :: T) H := hP
  have hD : va_D A ((h0, .inr (12, fs)) :: (q_34, .inl (D.1 14, 7, .inl (fun j => i2 (upZ (upZ (upZ (upZ (fun _ => 0) 0 101) 1 110) 2 116) 3 114 j)))) :: T) := hD
  refine lv_dup hx hb dX12_init_488 rfl ?_
  refine lv_iconst (v := 4) hx hb dX12_init_489 (by decide) ?_
  refine lv_bipush (v := 105) hx hb dX12_init_490 (by decide) ?_
  refine va_cast hx hb hK hP hD hS 1 1 rfl rfl (z_in (by decide) (by decide)) dX12_init_492 (fun H locs hP hD hS => ?_)
  rw [c_i2 (F := upZ (upZ (upZ (upZ (fun _ => 0) 0 101) 1 110) 2 116) 3 114) (k := Int32.toNatClampNeg 4) (c := vp_nar .char 105) (v := 105) (by decide)] at hP hD
  have hP : va_P D vwCl ((h0, .inr (12, fs)) :: (q_34, .inl (D.1 14, 7, .inl (fun j => i2 (upZ (upZ (upZ (upZ (upZ (fun _ => 0) 0 101) 1 110) 2 116) 3 114) 4 105 j)))) :: T) H := hP
  have hD : va_D A ((h0, .inr (12, fs)) :: (q_34, .inl (D.1 14, 7, .inl (fun j => i2 (upZ (upZ (upZ (upZ (upZ (fun _ => 0) 0 101) 1 110) 2 116) 3 114) 4 105 j)))) :: T) := hD
  refine lv_dup hx hb dX12_init_493 rfl ?_
  refine lv_iconst (v := 5) hx hb dX12_init_494 (by decide) ?_
  refine lv_bipush (v := 101) hx hb dX12_init_495 (by decide) ?_
  refine va_cast hx hb hK hP hD hS 1 1 rfl rfl (z_in (by decide) (by decide)) dX12_init_497 (fun H locs hP hD hS => ?_)
  rw [c_i2 (F := upZ (upZ (upZ (upZ (upZ (fun _ => 0) 0 101) 1 110) 2 116) 3 114) 4 105) (k := Int32.toNatClampNeg 5) (c := vp_nar .char 101) (v := 101) (by decide)] at hP hD
  have hP : va_P D vwCl ((h0, .inr (12, fs)) :: (q_34, .inl (D.1 14, 7, .inl (fun j => i2 (upZ (upZ (upZ (upZ (upZ (upZ (fun _ => 0) 0 101) 1 110) 2 116) 3 114) 4 105) 5 101 j)))) :: T) H := hP
  have hD : va_D A ((h0, .inr (12, fs)) :: (q_34, .inl (D.1 14, 7, .inl (fun j => i2 (upZ (upZ (upZ (upZ (upZ (upZ (fun _ => 0) 0 101) 1 110) 2 116) 3 114) 4 105) 5 101 j)))) :: T) := hD
  refine lv_dup hx hb dX12_init_498 rfl ?_
  refine lv_bipush (v := 6) hx hb dX12_init_499 (by decide) ?_
  refine lv_bipush (v := 115) hx hb dX12_init_501 (by decide) ?_
  refine va_cast hx hb hK hP hD hS 1 1 rfl rfl (z_in (by decide) (by decide)) dX12_init_503 (fun H locs hP hD hS => ?_)
  rw [c_i2 (F := upZ (upZ (upZ (upZ (upZ (upZ (fun _ => 0) 0 101) 1 110) 2 116) 3 114) 4 105) 5 101) (k := Int32.toNatClampNeg 6) (c := vp_nar .char 115) (v := 115) (by decide)] at hP hD
  have hP : va_P D vwCl ((h0, .inr (12, fs)) :: (q_34, .inl (D.1 14, 7, .inl (fun j => i2 (upZ (upZ (upZ (upZ (upZ (upZ (upZ (fun _ => 0) 0 101) 1 110) 2 116) 3 114) 4 105) 5 101) 6 115 j)))) :: T) H := hP
  have hD : va_D A ((h0, .inr (12, fs)) :: (q_34, .inl (D.1 14, 7, .inl (fun j => i2 (upZ (upZ (upZ (upZ (upZ (upZ (upZ (fun _ => 0) 0 101) 1 110) 2 116) 3 114) 4 105) 5 101) 6 115 j)))) :: T) := hD
  refine va_putF (D := D) (ci := 12) (v := .ref q_34) (ty := .array .char) (C := RX12) (T := TX12) (N := 116) hx hb ht inX12 tyX12 tyX12_ok nmX12 hown hK hP hD hS 0 rfl rfl 25 (by decide) (ht (.fieldLink RX12 63 "CloneVolumesModel" "entriesWord" "[C") fl_X12_63) (fun _ h9 => h9) rfl hin rfl (by decide +kernel) rfl rfl (by rw [hlen]; decide) dX12_init_504 (fun H locs hP hD hS => ?_)
  have hP : va_P D vwCl ((h0, .inr (12, (fs.set 25 (.ref q_34)))) :: (q_34, .inl (D.1 14, 7, .inl (fun j => i2 (upZ (upZ (upZ (upZ (upZ (upZ (upZ (fun _ => 0) 0 101) 1 110) 2 116) 3 114) 4 105) 5 101) 6 115 j)))) :: T) H := hP
  have hD : va_D A ((h0, .inr (12, (fs.set 25 (.ref q_34)))) :: (q_34, .inl (D.1 14, 7, .inl (fun j => i2 (upZ (upZ (upZ (upZ (upZ (upZ (upZ (fun _ => 0) 0 101) 1 110) 2 116) 3 114) 4 105) 5 101) 6 115 j)))) :: T) := hD
  generalize hfs_35 : fs.set 25 (.ref q_34) = fs_35 at hP hD
  have hlen : fs_35.length = 116 := by rw [← hfs_35, List.length_set]; exact hlen
  have hP : va_P D vwCl ((h0, .inr (12, fs_35)) :: (q_34, .inl (D.1 14, 7, .inl (fun j => i2 (upZ (upZ (upZ (upZ (upZ (upZ (upZ (fun _ => 0) 0 101) 1 110) 2 116) 3 114) 4 105) 5 101) 6 115 j)))) :: T) H := hP
  have hD : va_D A ((h0, .inr (12, fs_35)) :: (q_34, .inl (D.1 14, 7, .inl (fun j => i2 (upZ (upZ (upZ (upZ (upZ (upZ (upZ (fun _ => 0) 0 101) 1 110) 2 116) 3 114) 4 105) 5 101) 6 115 j)))) :: T) := hD
  refine lv_aload_n hx hb dX12_init_507 rfl (lv_at hl 0 rfl) ?_
  refine lv_bipush (v := 6) hx hb dX12_init_508 (by decide) ?_
  refine va_newa (atype := .char) (a0 := (6, .inl (fun _ => 0))) (ty := .char) (N' := 6) hx hb (ht _ ac_char) rfl hK hP hD hS hA (fun _ => rfl) (by decide) (by decide) (by decide) (Nat.le_trans (Nat.le_of_ble_eq_true rfl) hRc) (Nat.le_trans (Nat.le_of_ble_eq_true rfl) hRs) dX12_init_510 (fun q_36 cA H hK2 hP hD hS => ?_)
  obtain rfl := z_cls_char hK hK2
  refine W.widen (k := 18) (n := 1686) (Nat.le_of_ble_eq_true rfl) (Nat.le_of_ble_eq_true rfl) ?_
  obtain ⟨hP, hD⟩ := z_rot hP hD
  have hP : va_P D vwCl ((h0, .inr (12, fs_35)) :: (q_36, .inl (D.1 14, 6, .inl (fun _ => i2 0))) :: (q_34, .inl (D.1 14, 7, .inl (fun j => i2 (upZ (upZ (upZ (upZ (upZ (upZ (upZ (fun _ => 0) 0 101) 1 110) 2 116) 3 114) 4 105) 5 101) 6 115 j)))) :: T) H := hP
  have hD : va_D A ((h0, .inr (12, fs_35)) :: (q_36, .inl (D.1 14, 6, .inl (fun _ => i2 0))) :: (q_34, .inl (D.1 14, 7, .inl (fun j => i2 (upZ (upZ (upZ (upZ (upZ (upZ (upZ (fun _ => 0) 0 101) 1 110) 2 116) 3 114) 4 105) 5 101) 6 115 j)))) :: T) := hD
  refine lv_dup hx hb dX12_init_512 rfl ?_
  refine lv_iconst (v := 0) hx hb dX12_init_513 (by decide) ?_
  refine lv_bipush (v := 110) hx hb dX12_init_514 (by decide) ?_
  refine va_cast hx hb hK hP hD hS 1 1 rfl rfl (z_in (by decide) (by decide)) dX12_init_516 (fun H locs hP hD hS => ?_)
  rw [c_i2 (F := fun _ => 0) (k := Int32.toNatClampNeg 0) (c := vp_nar .char 110) (v := 110) (by decide)] at hP hD
  have hP : va_P D vwCl ((h0, .inr (12, fs_35)) :: (q_36, .inl (D.1 14, 6, .inl (fun j => i2 (upZ (fun _ => 0) 0 110 j)))) :: (q_34, .inl (D.1 14, 7, .inl (fun j => i2 (upZ (upZ (upZ (upZ (upZ (upZ (upZ (fun _ => 0) 0 101) 1 110) 2 116) 3 114) 4 105) 5 101) 6 115 j)))) :: T) H := hP
  have hD : va_D A ((h0, .inr (12, fs_35)) :: (q_36, .inl (D.1 14, 6, .inl (fun j => i2 (upZ (fun _ => 0) 0 110 j)))) :: (q_34, .inl (D.1 14, 7, .inl (fun j => i2 (upZ (upZ (upZ (upZ (upZ (upZ (upZ (fun _ => 0) 0 101) 1 110) 2 116) 3 114) 4 105) 5 101) 6 115 j)))) :: T) := hD
  refine lv_dup hx hb dX12_init_517 rfl ?_
  refine lv_iconst (v := 1) hx hb dX12_init_518 (by decide) ?_
  refine lv_bipush (v := 117) hx hb dX12_init_519 (by decide) ?_
  refine va_cast hx hb hK hP hD hS 1 1 rfl rfl (z_in (by decide) (by decide)) dX12_init_521 (fun H locs hP hD hS => ?_)
  rw [c_i2 (F := upZ (fun _ => 0) 0 110) (k := Int32.toNatClampNeg 1) (c := vp_nar .char 117) (v := 117) (by decide)] at hP hD
  have hP : va_P D vwCl ((h0, .inr (12, fs_35)) :: (q_36, .inl (D.1 14, 6, .inl (fun j => i2 (upZ (upZ (fun _ => 0) 0 110) 1 117 j)))) :: (q_34, .inl (D.1 14, 7, .inl (fun j => i2 (upZ (upZ (upZ (upZ (upZ (upZ (upZ (fun _ => 0) 0 101) 1 110) 2 116) 3 114) 4 105) 5 101) 6 115 j)))) :: T) H := hP
  have hD : va_D A ((h0, .inr (12, fs_35)) :: (q_36, .inl (D.1 14, 6, .inl (fun j => i2 (upZ (upZ (fun _ => 0) 0 110) 1 117 j)))) :: (q_34, .inl (D.1 14, 7, .inl (fun j => i2 (upZ (upZ (upZ (upZ (upZ (upZ (upZ (fun _ => 0) 0 101) 1 110) 2 116) 3 114) 4 105) 5 101) 6 115 j)))) :: T) := hD
  refine lv_dup hx hb dX12_init_522 rfl ?_
  refine lv_iconst (v := 2) hx hb dX12_init_523 (by decide) ?_
  refine lv_bipush (v := 109) hx hb dX12_init_524 (by decide) ?_
  refine va_cast hx hb hK hP hD hS 1 1 rfl rfl (z_in (by decide) (by decide)) dX12_init_526 (fun H locs hP hD hS => ?_)
  rw [c_i2 (F := upZ (upZ (fun _ => 0) 0 110) 1 117) (k := Int32.toNatClampNeg 2) (c := vp_nar .char 109) (v := 109) (by decide)] at hP hD
  have hP : va_P D vwCl ((h0, .inr (12, fs_35)) :: (q_36, .inl (D.1 14, 6, .inl (fun j => i2 (upZ (upZ (upZ (fun _ => 0) 0 110) 1 117) 2 109 j)))) :: (q_34, .inl (D.1 14, 7, .inl (fun j => i2 (upZ (upZ (upZ (upZ (upZ (upZ (upZ (fun _ => 0) 0 101) 1 110) 2 116) 3 114) 4 105) 5 101) 6 115 j)))) :: T) H := hP
  have hD : va_D A ((h0, .inr (12, fs_35)) :: (q_36, .inl (D.1 14, 6, .inl (fun j => i2 (upZ (upZ (upZ (fun _ => 0) 0 110) 1 117) 2 109 j)))) :: (q_34, .inl (D.1 14, 7, .inl (fun j => i2 (upZ (upZ (upZ (upZ (upZ (upZ (upZ (fun _ => 0) 0 101) 1 110) 2 116) 3 114) 4 105) 5 101) 6 115 j)))) :: T) := hD
  refine lv_dup hx hb dX12_init_527 rfl ?_
  refine lv_iconst (v := 3) hx hb dX12_init_528 (by decide) ?_
  refine lv_bipush (v := 98) hx hb dX12_init_529 (by decide) ?_
  refine va_cast hx hb hK hP hD hS 1 1 rfl rfl (z_in (by decide) (by decide)) dX12_init_531 (fun H locs hP hD hS => ?_)
  rw [c_i2 (F := upZ (upZ (upZ (fun _ => 0) 0 110) 1 117) 2 109) (k := Int32.toNatClampNeg 3) (c := vp_nar .char 98) (v := 98) (by decide)] at hP hD
  have hP : va_P D vwCl ((h0, .inr (12, fs_35)) :: (q_36, .inl (D.1 14, 6, .inl (fun j => i2 (upZ (upZ (upZ (upZ (fun _ => 0) 0 110) 1 117) 2 109) 3 98 j)))) :: (q_34, .inl (D.1 14, 7, .inl (fun j => i2 (upZ (upZ (upZ (upZ (upZ (upZ (upZ (fun _ => 0) 0 101) 1 110) 2 116) 3 114) 4 105) 5 101) 6 115 j)))) :: T) H := hP
  have hD : va_D A ((h0, .inr (12, fs_35)) :: (q_36, .inl (D.1 14, 6, .inl (fun j => i2 (upZ (upZ (upZ (upZ (fun _ => 0) 0 110) 1 117) 2 109) 3 98 j)))) :: (q_34, .inl (D.1 14, 7, .inl (fun j => i2 (upZ (upZ (upZ (upZ (upZ (upZ (upZ (fun _ => 0) 0 101) 1 110) 2 116) 3 114) 4 105) 5 101) 6 115 j)))) :: T) := hD
  refine lv_dup hx hb dX12_init_532 rfl ?_
  refine lv_iconst (v := 4) hx hb dX12_init_533 (by decide) ?_
  refine lv_bipush (v := 101) hx hb dX12_init_534 (by decide) ?_
  refine va_cast hx hb hK hP hD hS 1 1 rfl rfl (z_in (by decide) (by decide)) dX12_init_536 (fun H locs hP hD hS => ?_)
  rw [c_i2 (F := upZ (upZ (upZ (upZ (fun _ => 0) 0 110) 1 117) 2 109) 3 98) (k := Int32.toNatClampNeg 4) (c := vp_nar .char 101) (v := 101) (by decide)] at hP hD
  have hP : va_P D vwCl ((h0, .inr (12, fs_35)) :: (q_36, .inl (D.1 14, 6, .inl (fun j => i2 (upZ (upZ (upZ (upZ (upZ (fun _ => 0) 0 110) 1 117) 2 109) 3 98) 4 101 j)))) :: (q_34, .inl (D.1 14, 7, .inl (fun j => i2 (upZ (upZ (upZ (upZ (upZ (upZ (upZ (fun _ => 0) 0 101) 1 110) 2 116) 3 114) 4 105) 5 101) 6 115 j)))) :: T) H := hP
  have hD : va_D A ((h0, .inr (12, fs_35)) :: (q_36, .inl (D.1 14, 6, .inl (fun j => i2 (upZ (upZ (upZ (upZ (upZ (fun _ => 0) 0 110) 1 117) 2 109) 3 98) 4 101 j)))) :: (q_34, .inl (D.1 14, 7, .inl (fun j => i2 (upZ (upZ (upZ (upZ (upZ (upZ (upZ (fun _ => 0) 0 101) 1 110) 2 116) 3 114) 4 105) 5 101) 6 115 j)))) :: T) := hD
  refine lv_dup hx hb dX12_init_537 rfl ?_
  refine lv_iconst (v := 5) hx hb dX12_init_538 (by decide) ?_
  refine lv_bipush (v := 114) hx hb dX12_init_539 (by decide) ?_
  refine va_cast hx hb hK hP hD hS 1 1 rfl rfl (z_in (by decide) (by decide)) dX12_init_541 (fun H locs hP hD hS => ?_)
  rw [c_i2 (F := upZ (upZ (upZ (upZ (upZ (fun _ => 0) 0 110) 1 117) 2 109) 3 98) 4 101) (k := Int32.toNatClampNeg 5) (c := vp_nar .char 114) (v := 114) (by decide)] at hP hD
  have hP : va_P D vwCl ((h0, .inr (12, fs_35)) :: (q_36, .inl (D.1 14, 6, .inl (fun j => i2 (upZ (upZ (upZ (upZ (upZ (upZ (fun _ => 0) 0 110) 1 117) 2 109) 3 98) 4 101) 5 114 j)))) :: (q_34, .inl (D.1 14, 7, .inl (fun j => i2 (upZ (upZ (upZ (upZ (upZ (upZ (upZ (fun _ => 0) 0 101) 1 110) 2 116) 3 114) 4 105) 5 101) 6 115 j)))) :: T) H := hP
  have hD : va_D A ((h0, .inr (12, fs_35)) :: (q_36, .inl (D.1 14, 6, .inl (fun j => i2 (upZ (upZ (upZ (upZ (upZ (upZ (fun _ => 0) 0 110) 1 117) 2 109) 3 98) 4 101) 5 114 j)))) :: (q_34, .inl (D.1 14, 7, .inl (fun j => i2 (upZ (upZ (upZ (upZ (upZ (upZ (upZ (fun _ => 0) 0 101) 1 110) 2 116) 3 114) 4 105) 5 101) 6 115 j)))) :: T) := hD
  refine va_putF (D := D) (ci := 12) (v := .ref q_36) (ty := .array .char) (C := RX12) (T := TX12) (N := 116) hx hb ht inX12 tyX12 tyX12_ok nmX12 hown hK hP hD hS 0 rfl rfl 26 (by decide) (ht (.fieldLink RX12 66 "CloneVolumesModel" "numberWord" "[C") fl_X12_66) (fun _ h9 => h9) rfl hin rfl (by decide +kernel) rfl rfl (by rw [hlen]; decide) dX12_init_542 (fun H locs hP hD hS => ?_)
  have hP : va_P D vwCl ((h0, .inr (12, (fs_35.set 26 (.ref q_36)))) :: (q_36, .inl (D.1 14, 6, .inl (fun j => i2 (upZ (upZ (upZ (upZ (upZ (upZ (fun _ => 0) 0 110) 1 117) 2 109) 3 98) 4 101) 5 114 j)))) :: (q_34, .inl (D.1 14, 7, .inl (fun j => i2 (upZ (upZ (upZ (upZ (upZ (upZ (upZ (fun _ => 0) 0 101) 1 110) 2 116) 3 114) 4 105) 5 101) 6 115 j)))) :: T) H := hP
  have hD : va_D A ((h0, .inr (12, (fs_35.set 26 (.ref q_36)))) :: (q_36, .inl (D.1 14, 6, .inl (fun j => i2 (upZ (upZ (upZ (upZ (upZ (upZ (fun _ => 0) 0 110) 1 117) 2 109) 3 98) 4 101) 5 114 j)))) :: (q_34, .inl (D.1 14, 7, .inl (fun j => i2 (upZ (upZ (upZ (upZ (upZ (upZ (upZ (fun _ => 0) 0 101) 1 110) 2 116) 3 114) 4 105) 5 101) 6 115 j)))) :: T) := hD
  generalize hfs_37 : fs_35.set 26 (.ref q_36) = fs_37 at hP hD
  have hlen : fs_37.length = 116 := by rw [← hfs_37, List.length_set]; exact hlen
  have hP : va_P D vwCl ((h0, .inr (12, fs_37)) :: (q_36, .inl (D.1 14, 6, .inl (fun j => i2 (upZ (upZ (upZ (upZ (upZ (upZ (fun _ => 0) 0 110) 1 117) 2 109) 3 98) 4 101) 5 114 j)))) :: (q_34, .inl (D.1 14, 7, .inl (fun j => i2 (upZ (upZ (upZ (upZ (upZ (upZ (upZ (fun _ => 0) 0 101) 1 110) 2 116) 3 114) 4 105) 5 101) 6 115 j)))) :: T) H := hP
  have hD : va_D A ((h0, .inr (12, fs_37)) :: (q_36, .inl (D.1 14, 6, .inl (fun j => i2 (upZ (upZ (upZ (upZ (upZ (upZ (fun _ => 0) 0 110) 1 117) 2 109) 3 98) 4 101) 5 114 j)))) :: (q_34, .inl (D.1 14, 7, .inl (fun j => i2 (upZ (upZ (upZ (upZ (upZ (upZ (upZ (fun _ => 0) 0 101) 1 110) 2 116) 3 114) 4 105) 5 101) 6 115 j)))) :: T) := hD
  exact kk q_36 q_34 fs_37 _ _ (by rw [← hfs_37, ← hfs_35]) hP hD hS
set_option maxHeartbeats 4000000 in
set_option maxRecDepth 100000 in
theorem cM_8 {p : Program} {l : Launch} {e : Env} {R : Room} {s : State} {m : MethodId} {args : Array Value} {below : List Frame} {meth : Method} {c : Code} {Q : State → Prop} {D : va_G} {A : Nat → Prop} {ls : Array Slot} {h0 : Nat} {T : va_W} (hx : p.tables.exec = Jvm.exec) (hb : c.code = cX12_init) (ht : ∀ w ∈ lw_gd, w.before args s = true) (hown : s.vm.findClass RX12 = some m.cls) (hin : meth.name = "<init>") (hK : va_K D vwCl (TY D) s) (hA : ∀ q : Nat, s.heap.size ≤ q → A q) (hRc : 80 ≤ R.cells) (hRs : 35050 ≤ R.slots) (hl : lv_has ls 1 [(0, .ref h0)]) {fs : List Value} (hlen : fs.length = 116) {H : Heap} {locs : List Loc} (hP : va_P D vwCl ((h0, .inr (12, fs)) :: T) H) (hD : va_D A ((h0, .inr (12, fs)) :: T)) (hS : va_S A s.heap H locs)
    (kk : ∀ (q_40 : Nat) (q_38 : Nat) (fs' : List Value) (H : Heap) (locs : List Loc), fs' = ((fs.set 27 (.ref q_38)).set 28 (.ref q_40)) → va_P D vwCl ((h0, .inr (12, fs')) :: (q_40, .inl (D.1 14, 5, .inl (fun j => i2 (upZ (upZ (upZ (upZ (upZ (fun _ => 0) 0 102) 1 114) 2 101) 3 115) 4 104 j)))) :: (q_38, .inl (D.1 14, 5, .inl (fun j => i2 (upZ (upZ (upZ (upZ (upZ (fun _ => 0) 0 99) 1 111) 2 117) 3 110) 4 116 j)))) :: T) H → va_D A ((h0, .inr (12, fs')) :: (q_40, .inl (D.1 14, 5, .inl (fun j => i2 (upZ (upZ (upZ (upZ (upZ (fun _ => 0) 0 102) 1 114) 2 101) 3 115) 4 104 j)))) :: (q_38, .inl (D.1 14, 5, .inl (fun j => i2 (upZ (upZ (upZ (upZ (upZ (fun _ => 0) 0 99) 1 111) 2 117) 3 110) 4 116 j)))) :: T) → va_S A s.heap H locs → W p l e R s m args below meth c H locs 20 1696 Q (F0 m 609 ls [])) : W p l e R s m args below meth c H locs 18 1686 Q (F0 m 545 ls []) := by
  refine lv_aload_n hx hb dX12_init_545 rfl (lv_at hl 0 rfl) ?_
  refine lv_iconst (v := 5) hx hb dX12_init_546 (by decide) ?_
  refine va_newa (atype := .char) (a0 := (5, .inl (fun _ => 0))) (ty := .char) (N' := 5) hx hb (ht _ ac_char) rfl hK hP hD hS hA (fun _ => rfl) (by decide) (by decide) (by decide) (Nat.le_trans (Nat.le_of_ble_eq_true rfl) hRc) (Nat.le_trans (Nat.le_of_ble_eq_true rfl) hRs) dX12_init_547 (fun q_38 cA H hK2 hP hD hS => ?_)
  obtain rfl := z_cls_char hK hK2
  refine W.widen (k := 19) (n := 1691) (Nat.le_of_ble_eq_true rfl) (Nat.le_of_ble_eq_true rfl) ?_
  obtain ⟨hP, hD⟩ := z_rot hP hD
  have hP : va_P D vwCl ((h0, .inr (12, fs)) :: (q_38, .inl (D.1 14, 5, .inl (fun _ => i2 0))) :: T) H := hP
  have hD : va_D A ((h0, .inr (12, fs)) :: (q_38, .inl (D.1 14, 5, .inl (fun _ => i2 0))) :: T) := hD
  refine lv_dup hx hb dX12_init_549 rfl ?_
  refine lv_iconst (v := 0) hx hb dX12_init_550 (by decide) ?_
  refine lv_bipush (v := 99) hx hb dX12_init_551 (by decide) ?_
  refine va_cast hx hb hK hP hD hS 1 1 rfl rfl (z_in (by decide) (by decide)) dX12_init_553 (fun H locs hP hD hS => ?_)
  rw [c_i2 (F := fun _ => 0) (k := Int32.toNatClampNeg 0) (c := vp_nar .char 99) (v := 99) (by decide)] at hP hD
  have hP : va_P D vwCl ((h0, .inr (12, fs)) :: (q_38, .inl (D.1 14, 5, .inl (fun j => i2 (upZ (fun _ => 0) 0 99 j)))) :: T) H := hP
  have hD : va_D A ((h0, .inr (12, fs)) :: (q_38, .inl (D.1 14, 5, .inl (fun j => i2 (upZ (fun _ => 0) 0 99 j)))) :: T) := hD
  refine lv_dup hx hb dX12_init_554 rfl ?_
  refine lv_iconst (v := 1) hx hb dX12_init_555 (by decide) ?_
  refine lv_bipush (v := 111) hx hb dX12_init_556 (by decide) ?_
  refine va_cast hx hb hK hP hD hS 1 1 rfl rfl (z_in (by decide) (by decide)) dX12_init_558 (fun H locs hP hD hS => ?_)
  rw [c_i2 (F := upZ (fun _ => 0) 0 99) (k := Int32.toNatClampNeg 1) (c := vp_nar .char 111) (v := 111) (by decide)] at hP hD
  have hP : va_P D vwCl ((h0, .inr (12, fs)) :: (q_38, .inl (D.1 14, 5, .inl (fun j => i2 (upZ (upZ (fun _ => 0) 0 99) 1 111 j)))) :: T) H := hP
  have hD : va_D A ((h0, .inr (12, fs)) :: (q_38, .inl (D.1 14, 5, .inl (fun j => i2 (upZ (upZ (fun _ => 0) 0 99) 1 111 j)))) :: T) := hD
  refine lv_dup hx hb dX12_init_559 rfl ?_
  refine lv_iconst (v := 2) hx hb dX12_init_560 (by decide) ?_
  refine lv_bipush (v := 117) hx hb dX12_init_561 (by decide) ?_
  refine va_cast hx hb hK hP hD hS 1 1 rfl rfl (z_in (by decide) (by decide)) dX12_init_563 (fun H locs hP hD hS => ?_)
  rw [c_i2 (F := upZ (upZ (fun _ => 0) 0 99) 1 111) (k := Int32.toNatClampNeg 2) (c := vp_nar .char 117) (v := 117) (by decide)] at hP hD
  have hP : va_P D vwCl ((h0, .inr (12, fs)) :: (q_38, .inl (D.1 14, 5, .inl (fun j => i2 (upZ (upZ (upZ (fun _ => 0) 0 99) 1 111) 2 117 j)))) :: T) H := hP
  have hD : va_D A ((h0, .inr (12, fs)) :: (q_38, .inl (D.1 14, 5, .inl (fun j => i2 (upZ (upZ (upZ (fun _ => 0) 0 99) 1 111) 2 117 j)))) :: T) := hD
  refine lv_dup hx hb dX12_init_564 rfl ?_
  refine lv_iconst (v := 3) hx hb dX12_init_565 (by decide) ?_
  refine lv_bipush (v := 110) hx hb dX12_init_566 (by decide) ?_
  refine va_cast hx hb hK hP hD hS 1 1 rfl rfl (z_in (by decide) (by decide)) dX12_init_568 (fun H locs hP hD hS => ?_)
  rw [c_i2 (F := upZ (upZ (upZ (fun _ => 0) 0 99) 1 111) 2 117) (k := Int32.toNatClampNeg 3) (c := vp_nar .char 110) (v := 110) (by decide)] at hP hD
  have hP : va_P D vwCl ((h0, .inr (12, fs)) :: (q_38, .inl (D.1 14, 5, .inl (fun j => i2 (upZ (upZ (upZ (upZ (fun _ => 0) 0 99) 1 111) 2 117) 3 110 j)))) :: T) H := hP
  have hD : va_D A ((h0, .inr (12, fs)) :: (q_38, .inl (D.1 14, 5, .inl (fun j => i2 (upZ (upZ (upZ (upZ (fun _ => 0) 0 99) 1 111) 2 117) 3 110 j)))) :: T) := hD
  refine lv_dup hx hb dX12_init_569 rfl ?_
  refine lv_iconst (v := 4) hx hb dX12_init_570 (by decide) ?_
  refine lv_bipush (v := 116) hx hb dX12_init_571 (by decide) ?_
  refine va_cast hx hb hK hP hD hS 1 1 rfl rfl (z_in (by decide) (by decide)) dX12_init_573 (fun H locs hP hD hS => ?_)
  rw [c_i2 (F := upZ (upZ (upZ (upZ (fun _ => 0) 0 99) 1 111) 2 117) 3 110) (k := Int32.toNatClampNeg 4) (c := vp_nar .char 116) (v := 116) (by decide)] at hP hD
  have hP : va_P D vwCl ((h0, .inr (12, fs)) :: (q_38, .inl (D.1 14, 5, .inl (fun j => i2 (upZ (upZ (upZ (upZ (upZ (fun _ => 0) 0 99) 1 111) 2 117) 3 110) 4 116 j)))) :: T) H := hP
  have hD : va_D A ((h0, .inr (12, fs)) :: (q_38, .inl (D.1 14, 5, .inl (fun j => i2 (upZ (upZ (upZ (upZ (upZ (fun _ => 0) 0 99) 1 111) 2 117) 3 110) 4 116 j)))) :: T) := hD
  refine va_putF (D := D) (ci := 12) (v := .ref q_38) (ty := .array .char) (C := RX12) (T := TX12) (N := 116) hx hb ht inX12 tyX12 tyX12_ok nmX12 hown hK hP hD hS 0 rfl rfl 27 (by decide) (ht (.fieldLink RX12 69 "CloneVolumesModel" "countWord" "[C") fl_X12_69) (fun _ h9 => h9) rfl hin rfl (by decide +kernel) rfl rfl (by rw [hlen]; decide) dX12_init_574 (fun H locs hP hD hS => ?_)
  have hP : va_P D vwCl ((h0, .inr (12, (fs.set 27 (.ref q_38)))) :: (q_38, .inl (D.1 14, 5, .inl (fun j => i2 (upZ (upZ (upZ (upZ (upZ (fun _ => 0) 0 99) 1 111) 2 117) 3 110) 4 116 j)))) :: T) H := hP
  have hD : va_D A ((h0, .inr (12, (fs.set 27 (.ref q_38)))) :: (q_38, .inl (D.1 14, 5, .inl (fun j => i2 (upZ (upZ (upZ (upZ (upZ (fun _ => 0) 0 99) 1 111) 2 117) 3 110) 4 116 j)))) :: T) := hD
  generalize hfs_39 : fs.set 27 (.ref q_38) = fs_39 at hP hD
  have hlen : fs_39.length = 116 := by rw [← hfs_39, List.length_set]; exact hlen
  have hP : va_P D vwCl ((h0, .inr (12, fs_39)) :: (q_38, .inl (D.1 14, 5, .inl (fun j => i2 (upZ (upZ (upZ (upZ (upZ (fun _ => 0) 0 99) 1 111) 2 117) 3 110) 4 116 j)))) :: T) H := hP
  have hD : va_D A ((h0, .inr (12, fs_39)) :: (q_38, .inl (D.1 14, 5, .inl (fun j => i2 (upZ (upZ (upZ (upZ (upZ (fun _ => 0) 0 99) 1 111) 2 117) 3 110) 4 116 j)))) :: T) := hD
  refine lv_aload_n hx hb dX12_init_577 rfl (lv_at hl 0 rfl) ?_
  refine lv_iconst (v := 5) hx hb dX12_init_578 (by decide) ?_
  refine va_newa (atype := .char) (a0 := (5, .inl (fun _ => 0))) (ty := .char) (N' := 5) hx hb (ht _ ac_char) rfl hK hP hD hS hA (fun _ => rfl) (by decide) (by decide) (by decide) (Nat.le_trans (Nat.le_of_ble_eq_true rfl) hRc) (Nat.le_trans (Nat.le_of_ble_eq_true rfl) hRs) dX12_init_579 (fun q_40 cA H hK2 hP hD hS => ?_)
  obtain rfl := z_cls_char hK hK2
  refine W.widen (k := 20) (n := 1696) (Nat.le_of_ble_eq_true rfl) (Nat.le_of_ble_eq_true rfl) ?_
  obtain ⟨hP, hD⟩ := z_rot hP hD
  have hP : va_P D vwCl ((h0, .inr (12, fs_39)) :: (q_40, .inl (D.1 14, 5, .inl (fun _ => i2 0))) :: (q_38, .inl (D.1 14, 5, .inl (fun j => i2 (upZ (upZ (upZ (upZ (upZ (fun _ => 0) 0 99) 1 111) 2 117) 3 110) 4 116 j)))) :: T) H := hP
  have hD : va_D A ((h0, .inr (12, fs_39)) :: (q_40, .inl (D.1 14, 5, .inl (fun _ => i2 0))) :: (q_38, .inl (D.1 14, 5, .inl (fun j => i2 (upZ (upZ (upZ (upZ (upZ (fun _ => 0) 0 99) 1 111) 2 117) 3 110) 4 116 j)))) :: T) := hD
  refine lv_dup hx hb dX12_init_581 rfl ?_
  refine lv_iconst (v := 0) hx hb dX12_init_582 (by decide) ?_
  refine lv_bipush (v := 102) hx hb dX12_init_583 (by decide) ?_
  refine va_cast hx hb hK hP hD hS 1 1 rfl rfl (z_in (by decide) (by decide)) dX12_init_585 (fun H locs hP hD hS => ?_)
  rw [c_i2 (F := fun _ => 0) (k := Int32.toNatClampNeg 0) (c := vp_nar .char 102) (v := 102) (by decide)] at hP hD
  have hP : va_P D vwCl ((h0, .inr (12, fs_39)) :: (q_40, .inl (D.1 14, 5, .inl (fun j => i2 (upZ (fun _ => 0) 0 102 j)))) :: (q_38, .inl (D.1 14, 5, .inl (fun j => i2 (upZ (upZ (upZ (upZ (upZ (fun _ => 0) 0 99) 1 111) 2 117) 3 110) 4 116 j)))) :: T) H := hP
  have hD : va_D A ((h0, .inr (12, fs_39)) :: (q_40, .inl (D.1 14, 5, .inl (fun j => i2 (upZ (fun _ => 0) 0 102 j)))) :: (q_38, .inl (D.1 14, 5, .inl (fun j => i2 (upZ (upZ (upZ (upZ (upZ (fun _ => 0) 0 99) 1 111) 2 117) 3 110) 4 116 j)))) :: T) := hD
  refine lv_dup hx hb dX12_init_586 rfl ?_
  refine lv_iconst (v := 1) hx hb dX12_init_587 (by decide) ?_
  refine lv_bipush (v := 114) hx hb dX12_init_588 (by decide) ?_
  refine va_cast hx hb hK hP hD hS 1 1 rfl rfl (z_in (by decide) (by decide)) dX12_init_590 (fun H locs hP hD hS => ?_)
  rw [c_i2 (F := upZ (fun _ => 0) 0 102) (k := Int32.toNatClampNeg 1) (c := vp_nar .char 114) (v := 114) (by decide)] at hP hD
  have hP : va_P D vwCl ((h0, .inr (12, fs_39)) :: (q_40, .inl (D.1 14, 5, .inl (fun j => i2 (upZ (upZ (fun _ => 0) 0 102) 1 114 j)))) :: (q_38, .inl (D.1 14, 5, .inl (fun j => i2 (upZ (upZ (upZ (upZ (upZ (fun _ => 0) 0 99) 1 111) 2 117) 3 110) 4 116 j)))) :: T) H := hP
  have hD : va_D A ((h0, .inr (12, fs_39)) :: (q_40, .inl (D.1 14, 5, .inl (fun j => i2 (upZ (upZ (fun _ => 0) 0 102) 1 114 j)))) :: (q_38, .inl (D.1 14, 5, .inl (fun j => i2 (upZ (upZ (upZ (upZ (upZ (fun _ => 0) 0 99) 1 111) 2 117) 3 110) 4 116 j)))) :: T) := hD
  refine lv_dup hx hb dX12_init_591 rfl ?_
  refine lv_iconst (v := 2) hx hb dX12_init_592 (by decide) ?_
  refine lv_bipush (v := 101) hx hb dX12_init_593 (by decide) ?_
  refine va_cast hx hb hK hP hD hS 1 1 rfl rfl (z_in (by decide) (by decide)) dX12_init_595 (fun H locs hP hD hS => ?_)
  rw [c_i2 (F := upZ (upZ (fun _ => 0) 0 102) 1 114) (k := Int32.toNatClampNeg 2) (c := vp_nar .char 101) (v := 101) (by decide)] at hP hD
  have hP : va_P D vwCl ((h0, .inr (12, fs_39)) :: (q_40, .inl (D.1 14, 5, .inl (fun j => i2 (upZ (upZ (upZ (fun _ => 0) 0 102) 1 114) 2 101 j)))) :: (q_38, .inl (D.1 14, 5, .inl (fun j => i2 (upZ (upZ (upZ (upZ (upZ (fun _ => 0) 0 99) 1 111) 2 117) 3 110) 4 116 j)))) :: T) H := hP
  have hD : va_D A ((h0, .inr (12, fs_39)) :: (q_40, .inl (D.1 14, 5, .inl (fun j => i2 (upZ (upZ (upZ (fun _ => 0) 0 102) 1 114) 2 101 j)))) :: (q_38, .inl (D.1 14, 5, .inl (fun j => i2 (upZ (upZ (upZ (upZ (upZ (fun _ => 0) 0 99) 1 111) 2 117) 3 110) 4 116 j)))) :: T) := hD
  refine lv_dup hx hb dX12_init_596 rfl ?_
  refine lv_iconst (v := 3) hx hb dX12_init_597 (by decide) ?_
  refine lv_bipush (v := 115) hx hb dX12_init_598 (by decide) ?_
  refine va_cast hx hb hK hP hD hS 1 1 rfl rfl (z_in (by decide) (by decide)) dX12_init_600 (fun H locs hP hD hS => ?_)
  rw [c_i2 (F := upZ (upZ (upZ (fun _ => 0) 0 102) 1 114) 2 101) (k := Int32.toNatClampNeg 3) (c := vp_nar .char 115) (v := 115) (by decide)] at hP hD
  have hP : va_P D vwCl ((h0, .inr (12, fs_39)) :: (q_40, .inl (D.1 14, 5, .inl (fun j => i2 (upZ (upZ (upZ (upZ (fun _ => 0) 0 102) 1 114) 2 101) 3 115 j)))) :: (q_38, .inl (D.1 14, 5, .inl (fun j => i2 (upZ (upZ (upZ (upZ (upZ (fun _ => 0) 0 99) 1 111) 2 117) 3 110) 4 116 j)))) :: T) H := hP
  have hD : va_D A ((h0, .inr (12, fs_39)) :: (q_40, .inl (D.1 14, 5, .inl (fun j => i2 (upZ (upZ (upZ (upZ (fun _ => 0) 0 102) 1 114) 2 101) 3 115 j)))) :: (q_38, .inl (D.1 14, 5, .inl (fun j => i2 (upZ (upZ (upZ (upZ (upZ (fun _ => 0) 0 99) 1 111) 2 117) 3 110) 4 116 j)))) :: T) := hD
  refine lv_dup hx hb dX12_init_601 rfl ?_
  refine lv_iconst (v := 4) hx hb dX12_init_602 (by decide) ?_
  refine lv_bipush (v := 104) hx hb dX12_init_603 (by decide) ?_
  refine va_cast hx hb hK hP hD hS 1 1 rfl rfl (z_in (by decide) (by decide)) dX12_init_605 (fun H locs hP hD hS => ?_)
  rw [c_i2 (F := upZ (upZ (upZ (upZ (fun _ => 0) 0 102) 1 114) 2 101) 3 115) (k := Int32.toNatClampNeg 4) (c := vp_nar .char 104) (v := 104) (by decide)] at hP hD
  have hP : va_P D vwCl ((h0, .inr (12, fs_39)) :: (q_40, .inl (D.1 14, 5, .inl (fun j => i2 (upZ (upZ (upZ (upZ (upZ (fun _ => 0) 0 102) 1 114) 2 101) 3 115) 4 104 j)))) :: (q_38, .inl (D.1 14, 5, .inl (fun j => i2 (upZ (upZ (upZ (upZ (upZ (fun _ => 0) 0 99) 1 111) 2 117) 3 110) 4 116 j)))) :: T) H := hP
  have hD : va_D A ((h0, .inr (12, fs_39)) :: (q_40, .inl (D.1 14, 5, .inl (fun j => i2 (upZ (upZ (upZ (upZ (upZ (fun _ => 0) 0 102) 1 114) 2 101) 3 115) 4 104 j)))) :: (q_38, .inl (D.1 14, 5, .inl (fun j => i2 (upZ (upZ (upZ (upZ (upZ (fun _ => 0) 0 99) 1 111) 2 117) 3 110) 4 116 j)))) :: T) := hD
  refine va_putF (D := D) (ci := 12) (v := .ref q_40) (ty := .array .char) (C := RX12) (T := TX12) (N := 116) hx hb ht inX12 tyX12 tyX12_ok nmX12 hown hK hP hD hS 0 rfl rfl 28 (by decide) (ht (.fieldLink RX12 72 "CloneVolumesModel" "freshWord" "[C") fl_X12_72) (fun _ h9 => h9) rfl hin rfl (by decide +kernel) rfl rfl (by rw [hlen]; decide) dX12_init_606 (fun H locs hP hD hS => ?_)
  have hP : va_P D vwCl ((h0, .inr (12, (fs_39.set 28 (.ref q_40)))) :: (q_40, .inl (D.1 14, 5, .inl (fun j => i2 (upZ (upZ (upZ (upZ (upZ (fun _ => 0) 0 102) 1 114) 2 101) 3 115) 4 104 j)))) :: (q_38, .inl (D.1 14, 5, .inl (fun j => i2 (upZ (upZ (upZ (upZ (upZ (fun _ => 0) 0 99) 1 111) 2 117) 3 110) 4 116 j)))) :: T) H := hP
  have hD : va_D A ((h0, .inr (12, (fs_39.set 28 (.ref q_40)))) :: (q_40, .inl (D.1 14, 5, .inl (fun j => i2 (upZ (upZ (upZ (upZ (upZ (fun _ => 0) 0 102) 1 114) 2 101) 3 115) 4 104 j)))) :: (q_38, .inl (D.1 14, 5, .inl (fun j => i2 (upZ (upZ (upZ (upZ (upZ (fun _ => 0) 0 99) 1 111) 2 117) 3 110) 4 116 j)))) :: T) := hD
  generalize hfs_41 : fs_39.set 28 (.ref q_40) = fs_41 at hP hD
  have hlen : fs_41.length = 116 := by rw [← hfs_41, List.length_set]; exact hlen
  have hP : va_P D vwCl ((h0, .inr (12, fs_41)) :: (q_40, .inl (D.1 14, 5, .inl (fun j => i2 (upZ (upZ (upZ (upZ (upZ (fun _ => 0) 0 102) 1 114) 2 101) 3 115) 4 104 j)))) :: (q_38, .inl (D.1 14, 5, .inl (fun j => i2 (upZ (upZ (upZ (upZ (upZ (fun _ => 0) 0 99) 1 111) 2 117) 3 110) 4 116 j)))) :: T) H := hP
  have hD : va_D A ((h0, .inr (12, fs_41)) :: (q_40, .inl (D.1 14, 5, .inl (fun j => i2 (upZ (upZ (upZ (upZ (upZ (fun _ => 0) 0 102) 1 114) 2 101) 3 115) 4 104 j)))) :: (q_38, .inl (D.1 14, 5, .inl (fun j => i2 (upZ (upZ (upZ (upZ (upZ (fun _ => 0) 0 99) 1 111) 2 117) 3 110) 4 116 j)))) :: T) := hD
  exact kk q_40 q_38 fs_41 _ _ (by rw [← hfs_41, ← hfs_39]) hP hD hS
set_option maxHeartbeats 4000000 in
set_option maxRecDepth 100000 in
theorem cM_9 {p : Program} {l : Launch} {e : Env} {R : Room} {s : State} {m : MethodId} {args : Array Value} {below : List Frame} {meth : Method} {c : Code} {Q : State → Prop} {D : va_G} {A : Nat → Prop} {ls : Array Slot} {h0 : Nat} {T : va_W} (hx : p.tables.exec = Jvm.exec) (hb : c.code = cX12_init) (ht : ∀ w ∈ lw_gd, w.before args s = true) (hown : s.vm.findClass RX12 = some m.cls) (hin : meth.name = "<init>") (hK : va_K D vwCl (TY D) s) (hA : ∀ q : Nat, s.heap.size ≤ q → A q) (hRc : 80 ≤ R.cells) (hRs : 35050 ≤ R.slots) (hl : lv_has ls 1 [(0, .ref h0)]) {fs : List Value} (hlen : fs.length = 116) {H : Heap} {locs : List Loc} (hP : va_P D vwCl ((h0, .inr (12, fs)) :: T) H) (hD : va_D A ((h0, .inr (12, fs)) :: T)) (hS : va_S A s.heap H locs)
    (kk : ∀ (q_46 : Nat) (q_44 : Nat) (q_42 : Nat) (fs' : List Value) (H : Heap) (locs : List Loc), fs' = (((fs.set 29 (.ref q_42)).set 30 (.ref q_44)).set 31 (.ref q_46)) → va_P D vwCl ((h0, .inr (12, fs')) :: (q_46, .inl (D.1 14, 3, .inl (fun j => i2 (upZ (upZ (upZ (fun _ => 0) 0 107) 1 101) 2 121 j)))) :: (q_44, .inl (D.1 14, 4, .inl (fun j => i2 (upZ (upZ (upZ (upZ (fun _ => 0) 0 114) 1 101) 2 102) 3 115 j)))) :: (q_42, .inl (D.1 14, 5, .inl (fun j => i2 (upZ (upZ (upZ (upZ (upZ (fun _ => 0) 0 115) 1 97) 2 118) 3 101) 4 100 j)))) :: T) H → va_D A ((h0, .inr (12, fs')) :: (q_46, .inl (D.1 14, 3, .inl (fun j => i2 (upZ (upZ (upZ (fun _ => 0) 0 107) 1 101) 2 121 j)))) :: (q_44, .inl (D.1 14, 4, .inl (fun j => i2 (upZ (upZ (upZ (upZ (fun _ => 0) 0 114) 1 101) 2 102) 3 115 j)))) :: (q_42, .inl (D.1 14, 5, .inl (fun j => i2 (upZ (upZ (upZ (upZ (upZ (fun _ => 0) 0 115) 1 97) 2 118) 3 101) 4 100 j)))) :: T) → va_S A s.heap H locs → W p l e R s m args below meth c H locs 23 1708 Q (F0 m 690 ls [])) : W p l e R s m args below meth c H locs 20 1696 Q (F0 m 609 ls []) := by
  refine lv_aload_n hx hb dX12_init_609 rfl (lv_at hl 0 rfl) ?_
  refine lv_iconst (v := 5) hx hb dX12_init_610 (by decide) ?_
  refine va_newa (atype := .char) (a0 := (5, .inl (fun _ => 0))) (ty := .char) (N' := 5) hx hb (ht _ ac_char) rfl hK hP hD hS hA (fun _ => rfl) (by decide) (by decide) (by decide) (Nat.le_trans (Nat.le_of_ble_eq_true rfl) hRc) (Nat.le_trans (Nat.le_of_ble_eq_true rfl) hRs) dX12_init_611 (fun q_42 cA H hK2 hP hD hS => ?_)
  obtain rfl := z_cls_char hK hK2
  refine W.widen (k := 21) (n := 1701) (Nat.le_of_ble_eq_true rfl) (Nat.le_of_ble_eq_true rfl) ?_
  obtain ⟨hP, hD⟩ := z_rot hP hD
  have hP : va_P D vwCl ((h0, .inr (12, fs)) :: (q_42, .inl (D.1 14, 5, .inl (fun _ => i2 0))) :: T) H := hP
  have hD : va_D A ((h0, .inr (12, fs)) :: (q_42, .inl (D.1 14, 5, .inl (fun _ => i2 0))) :: T) := hD
  refine lv_dup hx hb dX12_init_613 rfl ?_
  refine lv_iconst (v := 0) hx hb dX12_init_614 (by decide) ?_
  refine lv_bipush (v := 115) hx hb dX12_init_615 (by decide) ?_
  refine va_cast hx hb hK hP hD hS 1 1 rfl rfl (z_in (by decide) (by decide)) dX12_init_617 (fun H locs hP hD hS => ?_)
  rw [c_i2 (F := fun _ => 0) (k := Int32.toNatClampNeg 0) (c := vp_nar .char 115) (v := 115) (by decide)] at hP hD
  have hP : va_P D vwCl ((h0, .inr (12, fs)) :: (q_42, .inl (D.1 14, 5, .inl (fun j => i2 (upZ (fun _ => 0) 0 115 j)))) :: T) H := hP
  have hD : va_D A ((h0, .inr (12, fs)) :: (q_42, .inl (D.1 14, 5, .inl (fun j => i2 (upZ (fun _ => 0) 0 115 j)))) :: T) := hD
  refine lv_dup hx hb dX12_init_618 rfl ?_
  refine lv_iconst (v := 1) hx hb dX12_init_619 (by decide) ?_
  refine lv_bipush (v := 97) hx hb dX12_init_620 (by decide) ?_
  refine va_cast hx hb hK hP hD hS 1 1 rfl rfl (z_in (by decide) (by decide)) dX12_init_622 (fun H locs hP hD hS => ?_)
  rw [c_i2 (F := upZ (fun _ => 0) 0 115) (k := Int32.toNatClampNeg 1) (c := vp_nar .char 97) (v := 97) (by decide)] at hP hD
  have hP : va_P D vwCl ((h0, .inr (12, fs)) :: (q_42, .inl (D.1 14, 5, .inl (fun j => i2 (upZ (upZ (fun _ => 0) 0 115) 1 97 j)))) :: T) H := hP
  have hD : va_D A ((h0, .inr (12, fs)) :: (q_42, .inl (D.1 14, 5, .inl (fun j => i2 (upZ (upZ (fun _ => 0) 0 115) 1 97 j)))) :: T) := hD
  refine lv_dup hx hb dX12_init_623 rfl ?_
  refine lv_iconst (v := 2) hx hb dX12_init_624 (by decide) ?_
  refine lv_bipush (v := 118) hx hb dX12_init_625 (by decide) ?_
  refine va_cast hx hb hK hP hD hS 1 1 rfl rfl (z_in (by decide) (by decide)) dX12_init_627 (fun H locs hP hD hS => ?_)
  rw [c_i2 (F := upZ (upZ (fun _ => 0) 0 115) 1 97) (k := Int32.toNatClampNeg 2) (c := vp_nar .char 118) (v := 118) (by decide)] at hP hD
  have hP : va_P D vwCl ((h0, .inr (12, fs)) :: (q_42, .inl (D.1 14, 5, .inl (fun j => i2 (upZ (upZ (upZ (fun _ => 0) 0 115) 1 97) 2 118 j)))) :: T) H := hP
  have hD : va_D A ((h0, .inr (12, fs)) :: (q_42, .inl (D.1 14, 5, .inl (fun j => i2 (upZ (upZ (upZ (fun _ => 0) 0 115) 1 97) 2 118 j)))) :: T) := hD
  refine lv_dup hx hb dX12_init_628 rfl ?_
  refine lv_iconst (v := 3) hx hb dX12_init_629 (by decide) ?_
  refine lv_bipush (v := 101) hx hb dX12_init_630 (by decide) ?_
  refine va_cast hx hb hK hP hD hS 1 1 rfl rfl (z_in (by decide) (by decide)) dX12_init_632 (fun H locs hP hD hS => ?_)
  rw [c_i2 (F := upZ (upZ (upZ (fun _ => 0) 0 115) 1 97) 2 118) (k := Int32.toNatClampNeg 3) (c := vp_nar .char 101) (v := 101) (by decide)] at hP hD
  have hP : va_P D vwCl ((h0, .inr (12, fs)) :: (q_42, .inl (D.1 14, 5, .inl (fun j => i2 (upZ (upZ (upZ (upZ (fun _ => 0) 0 115) 1 97) 2 118) 3 101 j)))) :: T) H := hP
  have hD : va_D A ((h0, .inr (12, fs)) :: (q_42, .inl (D.1 14, 5, .inl (fun j => i2 (upZ (upZ (upZ (upZ (fun _ => 0) 0 115) 1 97) 2 118) 3 101 j)))) :: T) := hD
  refine lv_dup hx hb dX12_init_633 rfl ?_
  refine lv_iconst (v := 4) hx hb dX12_init_634 (by decide) ?_
  refine lv_bipush (v := 100) hx hb dX12_init_635 (by decide) ?_
  refine va_cast hx hb hK hP hD hS 1 1 rfl rfl (z_in (by decide) (by decide)) dX12_init_637 (fun H locs hP hD hS => ?_)
  rw [c_i2 (F := upZ (upZ (upZ (upZ (fun _ => 0) 0 115) 1 97) 2 118) 3 101) (k := Int32.toNatClampNeg 4) (c := vp_nar .char 100) (v := 100) (by decide)] at hP hD
  have hP : va_P D vwCl ((h0, .inr (12, fs)) :: (q_42, .inl (D.1 14, 5, .inl (fun j => i2 (upZ (upZ (upZ (upZ (upZ (fun _ => 0) 0 115) 1 97) 2 118) 3 101) 4 100 j)))) :: T) H := hP
  have hD : va_D A ((h0, .inr (12, fs)) :: (q_42, .inl (D.1 14, 5, .inl (fun j => i2 (upZ (upZ (upZ (upZ (upZ (fun _ => 0) 0 115) 1 97) 2 118) 3 101) 4 100 j)))) :: T) := hD
  refine va_putF (D := D) (ci := 12) (v := .ref q_42) (ty := .array .char) (C := RX12) (T := TX12) (N := 116) hx hb ht inX12 tyX12 tyX12_ok nmX12 hown hK hP hD hS 0 rfl rfl 29 (by decide) (ht (.fieldLink RX12 75 "CloneVolumesModel" "savedWord" "[C") fl_X12_75) (fun _ h9 => h9) rfl hin rfl (by decide +kernel) rfl rfl (by rw [hlen]; decide) dX12_init_638 (fun H locs hP hD hS => ?_)
  have hP : va_P D vwCl ((h0, .inr (12, (fs.set 29 (.ref q_42)))) :: (q_42, .inl (D.1 14, 5, .inl (fun j => i2 (upZ (upZ (upZ (upZ (upZ (fun _ => 0) 0 115) 1 97) 2 118) 3 101) 4 100 j)))) :: T) H := hP
  have hD : va_D A ((h0, .inr (12, (fs.set 29 (.ref q_42)))) :: (q_42, .inl (D.1 14, 5, .inl (fun j => i2 (upZ (upZ (upZ (upZ (upZ (fun _ => 0) 0 115) 1 97) 2 118) 3 101) 4 100 j)))) :: T) := hD
  generalize hfs_43 : fs.set 29 (.ref q_42) = fs_43 at hP hD
  have hlen : fs_43.length = 116 := by rw [← hfs_43, List.length_set]; exact hlen
  have hP : va_P D vwCl ((h0, .inr (12, fs_43)) :: (q_42, .inl (D.1 14, 5, .inl (fun j => i2 (upZ (upZ (upZ (upZ (upZ (fun _ => 0) 0 115) 1 97) 2 118) 3 101) 4 100 j)))) :: T) H := hP
  have hD : va_D A ((h0, .inr (12, fs_43)) :: (q_42, .inl (D.1 14, 5, .inl (fun j => i2 (upZ (upZ (upZ (upZ (upZ (fun _ => 0) 0 115) 1 97) 2 118) 3 101) 4 100 j)))) :: T) := hD
  refine lv_aload_n hx hb dX12_init_641 rfl (lv_at hl 0 rfl) ?_
  refine lv_iconst (v := 4) hx hb dX12_init_642 (by decide) ?_
  refine va_newa (atype := .char) (a0 := (4, .inl (fun _ => 0))) (ty := .char) (N' := 4) hx hb (ht _ ac_char) rfl hK hP hD hS hA (fun _ => rfl) (by decide) (by decide) (by decide) (Nat.le_trans (Nat.le_of_ble_eq_true rfl) hRc) (Nat.le_trans (Nat.le_of_ble_eq_true rfl) hRs) dX12_init_643 (fun q_44 cA H hK2 hP hD hS => ?_)
  obtain rfl := z_cls_char hK hK2
  refine W.widen (k := 22) (n := 1705) (Nat.le_of_ble_eq_true rfl) (Nat.le_of_ble_eq_true rfl) ?_
  obtain ⟨hP, hD⟩ := z_rot hP hD
  have hP : va_P D vwCl ((h0, .inr (12, fs_43)) :: (q_44, .inl (D.1 14, 4, .inl (fun _ => i2 0))) :: (q_42, .inl (D.1 14, 5, .inl (fun j => i2 (upZ (upZ (upZ (upZ (upZ (fun _ => 0) 0 115) 1 97) 2 118) 3 101) 4 100 j)))) :: T) H := hP
  have hD : va_D A ((h0, .inr (12, fs_43)) :: (q_44, .inl (D.1 14, 4, .inl (fun _ => i2 0))) :: (q_42, .inl (D.1 14, 5, .inl (fun j => i2 (upZ (upZ (upZ (upZ (upZ (fun _ => 0) 0 115) 1 97) 2 118) 3 101) 4 100 j)))) :: T) := hD
  refine lv_dup hx hb dX12_init_645 rfl ?_
  refine lv_iconst (v := 0) hx hb dX12_init_646 (by decide) ?_
  refine lv_bipush (v := 114) hx hb dX12_init_647 (by decide) ?_
  refine va_cast hx hb hK hP hD hS 1 1 rfl rfl (z_in (by decide) (by decide)) dX12_init_649 (fun H locs hP hD hS => ?_)
  rw [c_i2 (F := fun _ => 0) (k := Int32.toNatClampNeg 0) (c := vp_nar .char 114) (v := 114) (by decide)] at hP hD
  have hP : va_P D vwCl ((h0, .inr (12, fs_43)) :: (q_44, .inl (D.1 14, 4, .inl (fun j => i2 (upZ (fun _ => 0) 0 114 j)))) :: (q_42, .inl (D.1 14, 5, .inl (fun j => i2 (upZ (upZ (upZ (upZ (upZ (fun _ => 0) 0 115) 1 97) 2 118) 3 101) 4 100 j)))) :: T) H := hP
  have hD : va_D A ((h0, .inr (12, fs_43)) :: (q_44, .inl (D.1 14, 4, .inl (fun j => i2 (upZ (fun _ => 0) 0 114 j)))) :: (q_42, .inl (D.1 14, 5, .inl (fun j => i2 (upZ (upZ (upZ (upZ (upZ (fun _ => 0) 0 115) 1 97) 2 118) 3 101) 4 100 j)))) :: T) := hD
  refine lv_dup hx hb dX12_init_650 rfl ?_
  refine lv_iconst (v := 1) hx hb dX12_init_651 (by decide) ?_
  refine lv_bipush (v := 101) hx hb dX12_init_652 (by decide) ?_
  refine va_cast hx hb hK hP hD hS 1 1 rfl rfl (z_in (by decide) (by decide)) dX12_init_654 (fun H locs hP hD hS => ?_)
  rw [c_i2 (F := upZ (fun _ => 0) 0 114) (k := Int32.toNatClampNeg 1) (c := vp_nar .char 101) (v := 101) (by decide)] at hP hD
  have hP : va_P D vwCl ((h0, .inr (12, fs_43)) :: (q_44, .inl (D.1 14, 4, .inl (fun j => i2 (upZ (upZ (fun _ => 0) 0 114) 1 101 j)))) :: (q_42, .inl (D.1 14, 5, .inl (fun j => i2 (upZ (upZ (upZ (upZ (upZ (fun _ => 0) 0 115) 1 97) 2 118) 3 101) 4 100 j)))) :: T) H := hP
  have hD : va_D A ((h0, .inr (12, fs_43)) :: (q_44, .inl (D.1 14, 4, .inl (fun j => i2 (upZ (upZ (fun _ => 0) 0 114) 1 101 j)))) :: (q_42, .inl (D.1 14, 5, .inl (fun j => i2 (upZ (upZ (upZ (upZ (upZ (fun _ => 0) 0 115) 1 97) 2 118) 3 101) 4 100 j)))) :: T) := hD
  refine lv_dup hx hb dX12_init_655 rfl ?_
  refine lv_iconst (v := 2) hx hb dX12_init_656 (by decide) ?_
  refine lv_bipush (v := 102) hx hb dX12_init_657 (by decide) ?_
  refine va_cast hx hb hK hP hD hS 1 1 rfl rfl (z_in (by decide) (by decide)) dX12_init_659 (fun H locs hP hD hS => ?_)
  rw [c_i2 (F := upZ (upZ (fun _ => 0) 0 114) 1 101) (k := Int32.toNatClampNeg 2) (c := vp_nar .char 102) (v := 102) (by decide)] at hP hD
  have hP : va_P D vwCl ((h0, .inr (12, fs_43)) :: (q_44, .inl (D.1 14, 4, .inl (fun j => i2 (upZ (upZ (upZ (fun _ => 0) 0 114) 1 101) 2 102 j)))) :: (q_42, .inl (D.1 14, 5, .inl (fun j => i2 (upZ (upZ (upZ (upZ (upZ (fun _ => 0) 0 115) 1 97) 2 118) 3 101) 4 100 j)))) :: T) H := hP
  have hD : va_D A ((h0, .inr (12, fs_43)) :: (q_44, .inl (D.1 14, 4, .inl (fun j => i2 (upZ (upZ (upZ (fun _ => 0) 0 114) 1 101) 2 102 j)))) :: (q_42, .inl (D.1 14, 5, .inl (fun j => i2 (upZ (upZ (upZ (upZ (upZ (fun _ => 0) 0 115) 1 97) 2 118) 3 101) 4 100 j)))) :: T) := hD
  refine lv_dup hx hb dX12_init_660 rfl ?_
  refine lv_iconst (v := 3) hx hb dX12_init_661 (by decide) ?_
  refine lv_bipush (v := 115) hx hb dX12_init_662 (by decide) ?_
  refine va_cast hx hb hK hP hD hS 1 1 rfl rfl (z_in (by decide) (by decide)) dX12_init_664 (fun H locs hP hD hS => ?_)
  rw [c_i2 (F := upZ (upZ (upZ (fun _ => 0) 0 114) 1 101) 2 102) (k := Int32.toNatClampNeg 3) (c := vp_nar .char 115) (v := 115) (by decide)] at hP hD
  have hP : va_P D vwCl ((h0, .inr (12, fs_43)) :: (q_44, .inl (D.1 14, 4, .inl (fun j => i2 (upZ (upZ (upZ (upZ (fun _ => 0) 0 114) 1 101) 2 102) 3 115 j)))) :: (q_42, .inl (D.1 14, 5, .inl (fun j => i2 (upZ (upZ (upZ (upZ (upZ (fun _ => 0) 0 115) 1 97) 2 118) 3 101) 4 100 j)))) :: T) H := hP
  have hD : va_D A ((h0, .inr (12, fs_43)) :: (q_44, .inl (D.1 14, 4, .inl (fun j => i2 (upZ (upZ (upZ (upZ (fun _ => 0) 0 114) 1 101) 2 102) 3 115 j)))) :: (q_42, .inl (D.1 14, 5, .inl (fun j => i2 (upZ (upZ (upZ (upZ (upZ (fun _ => 0) 0 115) 1 97) 2 118) 3 101) 4 100 j)))) :: T) := hD
  refine va_putF (D := D) (ci := 12) (v := .ref q_44) (ty := .array .char) (C := RX12) (T := TX12) (N := 116) hx hb ht inX12 tyX12 tyX12_ok nmX12 hown hK hP hD hS 0 rfl rfl 30 (by decide) (ht (.fieldLink RX12 78 "CloneVolumesModel" "refsWord" "[C") fl_X12_78) (fun _ h9 => h9) rfl hin rfl (by decide +kernel) rfl rfl (by rw [hlen]; decide) dX12_init_665 (fun H locs hP hD hS => ?_)
  have hP : va_P D vwCl ((h0, .inr (12, (fs_43.set 30 (.ref q_44)))) :: (q_44, .inl (D.1 14, 4, .inl (fun j => i2 (upZ (upZ (upZ (upZ (fun _ => 0) 0 114) 1 101) 2 102) 3 115 j)))) :: (q_42, .inl (D.1 14, 5, .inl (fun j => i2 (upZ (upZ (upZ (upZ (upZ (fun _ => 0) 0 115) 1 97) 2 118) 3 101) 4 100 j)))) :: T) H := hP
  have hD : va_D A ((h0, .inr (12, (fs_43.set 30 (.ref q_44)))) :: (q_44, .inl (D.1 14, 4, .inl (fun j => i2 (upZ (upZ (upZ (upZ (fun _ => 0) 0 114) 1 101) 2 102) 3 115 j)))) :: (q_42, .inl (D.1 14, 5, .inl (fun j => i2 (upZ (upZ (upZ (upZ (upZ (fun _ => 0) 0 115) 1 97) 2 118) 3 101) 4 100 j)))) :: T) := hD
  generalize hfs_45 : fs_43.set 30 (.ref q_44) = fs_45 at hP hD
  have hlen : fs_45.length = 116 := by rw [← hfs_45, List.length_set]; exact hlen
  have hP : va_P D vwCl ((h0, .inr (12, fs_45)) :: (q_44, .inl (D.1 14, 4, .inl (fun j => i2 (upZ (upZ (upZ (upZ (fun _ => 0) 0 114) 1 101) 2 102) 3 115 j)))) :: (q_42, .inl (D.1 14, 5, .inl (fun j => i2 (upZ (upZ (upZ (upZ (upZ (fun _ => 0) 0 115) 1 97) 2 118) 3 101) 4 100 j)))) :: T) H := hP
  have hD : va_D A ((h0, .inr (12, fs_45)) :: (q_44, .inl (D.1 14, 4, .inl (fun j => i2 (upZ (upZ (upZ (upZ (fun _ => 0) 0 114) 1 101) 2 102) 3 115 j)))) :: (q_42, .inl (D.1 14, 5, .inl (fun j => i2 (upZ (upZ (upZ (upZ (upZ (fun _ => 0) 0 115) 1 97) 2 118) 3 101) 4 100 j)))) :: T) := hD
  refine lv_aload_n hx hb dX12_init_668 rfl (lv_at hl 0 rfl) ?_
  refine lv_iconst (v := 3) hx hb dX12_init_669 (by decide) ?_
  refine va_newa (atype := .char) (a0 := (3, .inl (fun _ => 0))) (ty := .char) (N' := 3) hx hb (ht _ ac_char) rfl hK hP hD hS hA (fun _ => rfl) (by decide) (by decide) (by decide) (Nat.le_trans (Nat.le_of_ble_eq_true rfl) hRc) (Nat.le_trans (Nat.le_of_ble_eq_true rfl) hRs) dX12_init_670 (fun q_46 cA H hK2 hP hD hS => ?_)
  obtain rfl := z_cls_char hK hK2
  refine W.widen (k := 23) (n := 1708) (Nat.le_of_ble_eq_true rfl) (Nat.le_of_ble_eq_true rfl) ?_
  obtain ⟨hP, hD⟩ := z_rot hP hD
  have hP : va_P D vwCl ((h0, .inr (12, fs_45)) :: (q_46, .inl (D.1 14, 3, .inl (fun _ => i2 0))) :: (q_44, .inl (D.1 14, 4, .inl (fun j => i2 (upZ (upZ (upZ (upZ (fun _ => 0) 0 114) 1 101) 2 102) 3 115 j)))) :: (q_42, .inl (D.1 14, 5, .inl (fun j => i2 (upZ (upZ (upZ (upZ (upZ (fun _ => 0) 0 115) 1 97) 2 118) 3 101) 4 100 j)))) :: T) H := hP
  have hD : va_D A ((h0, .inr (12, fs_45)) :: (q_46, .inl (D.1 14, 3, .inl (fun _ => i2 0))) :: (q_44, .inl (D.1 14, 4, .inl (fun j => i2 (upZ (upZ (upZ (upZ (fun _ => 0) 0 114) 1 101) 2 102) 3 115 j)))) :: (q_42, .inl (D.1 14, 5, .inl (fun j => i2 (upZ (upZ (upZ (upZ (upZ (fun _ => 0) 0 115) 1 97) 2 118) 3 101) 4 100 j)))) :: T) := hD
  refine lv_dup hx hb dX12_init_672 rfl ?_
  refine lv_iconst (v := 0) hx hb dX12_init_673 (by decide) ?_
  refine lv_bipush (v := 107) hx hb dX12_init_674 (by decide) ?_
  refine va_cast hx hb hK hP hD hS 1 1 rfl rfl (z_in (by decide) (by decide)) dX12_init_676 (fun H locs hP hD hS => ?_)
  rw [c_i2 (F := fun _ => 0) (k := Int32.toNatClampNeg 0) (c := vp_nar .char 107) (v := 107) (by decide)] at hP hD
  have hP : va_P D vwCl ((h0, .inr (12, fs_45)) :: (q_46, .inl (D.1 14, 3, .inl (fun j => i2 (upZ (fun _ => 0) 0 107 j)))) :: (q_44, .inl (D.1 14, 4, .inl (fun j => i2 (upZ (upZ (upZ (upZ (fun _ => 0) 0 114) 1 101) 2 102) 3 115 j)))) :: (q_42, .inl (D.1 14, 5, .inl (fun j => i2 (upZ (upZ (upZ (upZ (upZ (fun _ => 0) 0 115) 1 97) 2 118) 3 101) 4 100 j)))) :: T) H := hP
  have hD : va_D A ((h0, .inr (12, fs_45)) :: (q_46, .inl (D.1 14, 3, .inl (fun j => i2 (upZ (fun _ => 0) 0 107 j)))) :: (q_44, .inl (D.1 14, 4, .inl (fun j => i2 (upZ (upZ (upZ (upZ (fun _ => 0) 0 114) 1 101) 2 102) 3 115 j)))) :: (q_42, .inl (D.1 14, 5, .inl (fun j => i2 (upZ (upZ (upZ (upZ (upZ (fun _ => 0) 0 115) 1 97) 2 118) 3 101) 4 100 j)))) :: T) := hD
  refine lv_dup hx hb dX12_init_677 rfl ?_
  refine lv_iconst (v := 1) hx hb dX12_init_678 (by decide) ?_
  refine lv_bipush (v := 101) hx hb dX12_init_679 (by decide) ?_
  refine va_cast hx hb hK hP hD hS 1 1 rfl rfl (z_in (by decide) (by decide)) dX12_init_681 (fun H locs hP hD hS => ?_)
  rw [c_i2 (F := upZ (fun _ => 0) 0 107) (k := Int32.toNatClampNeg 1) (c := vp_nar .char 101) (v := 101) (by decide)] at hP hD
  have hP : va_P D vwCl ((h0, .inr (12, fs_45)) :: (q_46, .inl (D.1 14, 3, .inl (fun j => i2 (upZ (upZ (fun _ => 0) 0 107) 1 101 j)))) :: (q_44, .inl (D.1 14, 4, .inl (fun j => i2 (upZ (upZ (upZ (upZ (fun _ => 0) 0 114) 1 101) 2 102) 3 115 j)))) :: (q_42, .inl (D.1 14, 5, .inl (fun j => i2 (upZ (upZ (upZ (upZ (upZ (fun _ => 0) 0 115) 1 97) 2 118) 3 101) 4 100 j)))) :: T) H := hP
  have hD : va_D A ((h0, .inr (12, fs_45)) :: (q_46, .inl (D.1 14, 3, .inl (fun j => i2 (upZ (upZ (fun _ => 0) 0 107) 1 101 j)))) :: (q_44, .inl (D.1 14, 4, .inl (fun j => i2 (upZ (upZ (upZ (upZ (fun _ => 0) 0 114) 1 101) 2 102) 3 115 j)))) :: (q_42, .inl (D.1 14, 5, .inl (fun j => i2 (upZ (upZ (upZ (upZ (upZ (fun _ => 0) 0 115) 1 97) 2 118) 3 101) 4 100 j)))) :: T) := hD
  refine lv_dup hx hb dX12_init_682 rfl ?_
  refine lv_iconst (v := 2) hx hb dX12_init_683 (by decide) ?_
  refine lv_bipush (v := 121) hx hb dX12_init_684 (by decide) ?_
  refine va_cast hx hb hK hP hD hS 1 1 rfl rfl (z_in (by decide) (by decide)) dX12_init_686 (fun H locs hP hD hS => ?_)
  rw [c_i2 (F := upZ (upZ (fun _ => 0) 0 107) 1 101) (k := Int32.toNatClampNeg 2) (c := vp_nar .char 121) (v := 121) (by decide)] at hP hD
  have hP : va_P D vwCl ((h0, .inr (12, fs_45)) :: (q_46, .inl (D.1 14, 3, .inl (fun j => i2 (upZ (upZ (upZ (fun _ => 0) 0 107) 1 101) 2 121 j)))) :: (q_44, .inl (D.1 14, 4, .inl (fun j => i2 (upZ (upZ (upZ (upZ (fun _ => 0) 0 114) 1 101) 2 102) 3 115 j)))) :: (q_42, .inl (D.1 14, 5, .inl (fun j => i2 (upZ (upZ (upZ (upZ (upZ (fun _ => 0) 0 115) 1 97) 2 118) 3 101) 4 100 j)))) :: T) H := hP
  have hD : va_D A ((h0, .inr (12, fs_45)) :: (q_46, .inl (D.1 14, 3, .inl (fun j => i2 (upZ (upZ (upZ (fun _ => 0) 0 107) 1 101) 2 121 j)))) :: (q_44, .inl (D.1 14, 4, .inl (fun j => i2 (upZ (upZ (upZ (upZ (fun _ => 0) 0 114) 1 101) 2 102) 3 115 j)))) :: (q_42, .inl (D.1 14, 5, .inl (fun j => i2 (upZ (upZ (upZ (upZ (upZ (fun _ => 0) 0 115) 1 97) 2 118) 3 101) 4 100 j)))) :: T) := hD
  refine va_putF (D := D) (ci := 12) (v := .ref q_46) (ty := .array .char) (C := RX12) (T := TX12) (N := 116) hx hb ht inX12 tyX12 tyX12_ok nmX12 hown hK hP hD hS 0 rfl rfl 31 (by decide) (ht (.fieldLink RX12 81 "CloneVolumesModel" "keyWord" "[C") fl_X12_81) (fun _ h9 => h9) rfl hin rfl (by decide +kernel) rfl rfl (by rw [hlen]; decide) dX12_init_687 (fun H locs hP hD hS => ?_)
  have hP : va_P D vwCl ((h0, .inr (12, (fs_45.set 31 (.ref q_46)))) :: (q_46, .inl (D.1 14, 3, .inl (fun j => i2 (upZ (upZ (upZ (fun _ => 0) 0 107) 1 101) 2 121 j)))) :: (q_44, .inl (D.1 14, 4, .inl (fun j => i2 (upZ (upZ (upZ (upZ (fun _ => 0) 0 114) 1 101) 2 102) 3 115 j)))) :: (q_42, .inl (D.1 14, 5, .inl (fun j => i2 (upZ (upZ (upZ (upZ (upZ (fun _ => 0) 0 115) 1 97) 2 118) 3 101) 4 100 j)))) :: T) H := hP
  have hD : va_D A ((h0, .inr (12, (fs_45.set 31 (.ref q_46)))) :: (q_46, .inl (D.1 14, 3, .inl (fun j => i2 (upZ (upZ (upZ (fun _ => 0) 0 107) 1 101) 2 121 j)))) :: (q_44, .inl (D.1 14, 4, .inl (fun j => i2 (upZ (upZ (upZ (upZ (fun _ => 0) 0 114) 1 101) 2 102) 3 115 j)))) :: (q_42, .inl (D.1 14, 5, .inl (fun j => i2 (upZ (upZ (upZ (upZ (upZ (fun _ => 0) 0 115) 1 97) 2 118) 3 101) 4 100 j)))) :: T) := hD
  generalize hfs_47 : fs_45.set 31 (.ref q_46) = fs_47 at hP hD
  have hlen : fs_47.length = 116 := by rw [← hfs_47, List.length_set]; exact hlen
  have hP : va_P D vwCl ((h0, .inr (12, fs_47)) :: (q_46, .inl (D.1 14, 3, .inl (fun j => i2 (upZ (upZ (upZ (fun _ => 0) 0 107) 1 101) 2 121 j)))) :: (q_44, .inl (D.1 14, 4, .inl (fun j => i2 (upZ (upZ (upZ (upZ (fun _ => 0) 0 114) 1 101) 2 102) 3 115 j)))) :: (q_42, .inl (D.1 14, 5, .inl (fun j => i2 (upZ (upZ (upZ (upZ (upZ (fun _ => 0) 0 115) 1 97) 2 118) 3 101) 4 100 j)))) :: T) H := hP
  have hD : va_D A ((h0, .inr (12, fs_47)) :: (q_46, .inl (D.1 14, 3, .inl (fun j => i2 (upZ (upZ (upZ (fun _ => 0) 0 107) 1 101) 2 121 j)))) :: (q_44, .inl (D.1 14, 4, .inl (fun j => i2 (upZ (upZ (upZ (upZ (fun _ => 0) 0 114) 1 101) 2 102) 3 115 j)))) :: (q_42, .inl (D.1 14, 5, .inl (fun j => i2 (upZ (upZ (upZ (upZ (upZ (fun _ => 0) 0 115) 1 97) 2 118) 3 101) 4 100 j)))) :: T) := hD
  exact kk q_46 q_44 q_42 fs_47 _ _ (by rw [← hfs_47, ← hfs_45, ← hfs_43]) hP hD hS
