theorem dX12_init_463 : decode cX12_init 463 = .ok (.aload_n 0, 1) := by decide +kernel
theorem dX12_init_464 : decode cX12_init 464 = .ok (.bipush 7, 2) := by decide +kernel
theorem dX12_init_466 : decode cX12_init 466 = .ok (.newarray .char, 2) := by decide +kernel
theorem dX12_init_468 : decode cX12_init 468 = .ok (.dup, 1) := by decide +kernel
theorem dX12_init_469 : decode cX12_init 469 = .ok (.iconst 0, 1) := by decide +kernel
theorem dX12_init_470 : decode cX12_init 470 = .ok (.bipush 101, 2) := by decide +kernel
theorem dX12_init_472 : decode cX12_init 472 = .ok (.castore, 1) := by decide +kernel
theorem dX12_init_473 : decode cX12_init 473 = .ok (.dup, 1) := by decide +kernel
theorem dX12_init_474 : decode cX12_init 474 = .ok (.iconst 1, 1) := by decide +kernel
theorem dX12_init_475 : decode cX12_init 475 = .ok (.bipush 110, 2) := by decide +kernel
theorem dX12_init_477 : decode cX12_init 477 = .ok (.castore, 1) := by decide +kernel
theorem dX12_init_478 : decode cX12_init 478 = .ok (.dup, 1) := by decide +kernel
theorem dX12_init_479 : decode cX12_init 479 = .ok (.iconst 2, 1) := by decide +kernel
theorem dX12_init_480 : decode cX12_init 480 = .ok (.bipush 116, 2) := by decide +kernel
theorem dX12_init_482 : decode cX12_init 482 = .ok (.castore, 1) := by decide +kernel
theorem dX12_init_483 : decode cX12_init 483 = .ok (.dup, 1) := by decide +kernel
theorem dX12_init_484 : decode cX12_init 484 = .ok (.iconst 3, 1) := by decide +kernel
theorem dX12_init_485 : decode cX12_init 485 = .ok (.bipush 114, 2) := by decide +kernel
theorem dX12_init_487 : decode cX12_init 487 = .ok (.castore, 1) := by decide +kernel
theorem dX12_init_488 : decode cX12_init 488 = .ok (.dup, 1) := by decide +kernel
theorem dX12_init_489 : decode cX12_init 489 = .ok (.iconst 4, 1) := by decide +kernel
theorem dX12_init_490 : decode cX12_init 490 = .ok (.bipush 105, 2) := by decide +kernel
theorem dX12_init_492 : decode cX12_init 492 = .ok (.castore, 1) := by decide +kernel
theorem dX12_init_493 : decode cX12_init 493 = .ok (.dup, 1) := by decide +kernel
theorem dX12_init_494 : decode cX12_init 494 = .ok (.iconst 5, 1) := by decide +kernel
theorem dX12_init_495 : decode cX12_init 495 = .ok (.bipush 101, 2) := by decide +kernel
theorem dX12_init_497 : decode cX12_init 497 = .ok (.castore, 1) := by decide +kernel
theorem dX12_init_498 : decode cX12_init 498 = .ok (.dup, 1) := by decide +kernel
theorem dX12_init_499 : decode cX12_init 499 = .ok (.bipush 6, 2) := by decide +kernel
theorem dX12_init_501 : decode cX12_init 501 = .ok (.bipush 115, 2) := by decide +kernel
theorem dX12_init_503 : decode cX12_init 503 = .ok (.castore, 1) := by decide +kernel
theorem dX12_init_504 : decode cX12_init 504 = .ok (.putfield 63, 3) := by decide +kernel
theorem dX12_init_507 : decode cX12_init 507 = .ok (.aload_n 0, 1) := by decide +kernel
theorem dX12_init_508 : decode cX12_init 508 = .ok (.bipush 6, 2) := by decide +kernel
theorem dX12_init_510 : decode cX12_init 510 = .ok (.newarray .char, 2) := by decide +kernel
theorem dX12_init_512 : decode cX12_init 512 = .ok (.dup, 1) := by decide +kernel
theorem dX12_init_513 : decode cX12_init 513 = .ok (.iconst 0, 1) := by decide +kernel
theorem dX12_init_514 : decode cX12_init 514 = .ok (.bipush 110, 2) := by decide +kernel
theorem dX12_init_516 : decode cX12_init 516 = .ok (.castore, 1) := by decide +kernel
theorem dX12_init_517 : decode cX12_init 517 = .ok (.dup, 1) := by decide +kernel
theorem dX12_init_518 : decode cX12_init 518 = .ok (.iconst 1, 1) := by decide +kernel
theorem dX12_init_519 : decode cX12_init 519 = .ok (.bipush 117, 2) := by decide +kernel
theorem dX12_init_521 : decode cX12_init 521 = .ok (.castore, 1) := by decide +kernel
theorem dX12_init_522 : decode cX12_init 522 = .ok (.dup, 1) := by decide +kernel
theorem dX12_init_523 : decode cX12_init 523 = .ok (.iconst 2, 1) := by decide +kernel
theorem dX12_init_524 : decode cX12_init 524 = .ok (.bipush 109, 2) := by decide +kernel
theorem dX12_init_526 : decode cX12_init 526 = .ok (.castore, 1) := by decide +kernel
theorem dX12_init_527 : decode cX12_init 527 = .ok (.dup, 1) := by decide +kernel
theorem dX12_init_528 : decode cX12_init 528 = .ok (.iconst 3, 1) := by decide +kernel
theorem dX12_init_529 : decode cX12_init 529 = .ok (.bipush 98, 2) := by decide +kernel
theorem dX12_init_531 : decode cX12_init 531 = .ok (.castore, 1) := by decide +kernel
theorem dX12_init_532 : decode cX12_init 532 = .ok (.dup, 1) := by decide +kernel
theorem dX12_init_533 : decode cX12_init 533 = .ok (.iconst 4, 1) := by decide +kernel
theorem dX12_init_534 : decode cX12_init 534 = .ok (.bipush 101, 2) := by decide +kernel
theorem dX12_init_536 : decode cX12_init 536 = .ok (.castore, 1) := by decide +kernel
theorem dX12_init_537 : decode cX12_init 537 = .ok (.dup, 1) := by decide +kernel
theorem dX12_init_538 : decode cX12_init 538 = .ok (.iconst 5, 1) := by decide +kernel
theorem dX12_init_539 : decode cX12_init 539 = .ok (.bipush 114, 2) := by decide +kernel
theorem dX12_init_541 : decode cX12_init 541 = .ok (.castore, 1) := by decide +kernel
theorem dX12_init_542 : decode cX12_init 542 = .ok (.putfield 66, 3) := by decide +kernel
theorem dX12_init_545 : decode cX12_init 545 = .ok (.aload_n 0, 1) := by decide +kernel
theorem dX12_init_546 : decode cX12_init 546 = .ok (.iconst 5, 1) := by decide +kernel
theorem dX12_init_547 : decode cX12_init 547 = .ok (.newarray .char, 2) := by decide +kernel
theorem dX12_init_549 : decode cX12_init 549 = .ok (.dup, 1) := by decide +kernel
theorem dX12_init_550 : decode cX12_init 550 = .ok (.iconst 0, 1) := by decide +kernel
theorem dX12_init_551 : decode cX12_init 551 = .ok (.bipush 99, 2) := by decide +kernel
theorem dX12_init_553 : decode cX12_init 553 = .ok (.castore, 1) := by decide +kernel
theorem dX12_init_554 : decode cX12_init 554 = .ok (.dup, 1) := by decide +kernel
theorem dX12_init_555 : decode cX12_init 555 = .ok (.iconst 1, 1) := by decide +kernel
theorem dX12_init_556 : decode cX12_init 556 = .ok (.bipush 111, 2) := by decide +kernel
theorem dX12_init_558 : decode cX12_init 558 = .ok (.castore, 1) := by decide +kernel
theorem dX12_init_559 : decode cX12_init 559 = .ok (.dup, 1) := by decide +kernel
theorem dX12_init_560 : decode cX12_init 560 = .ok (.iconst 2, 1) := by decide +kernel
theorem dX12_init_561 : decode cX12_init 561 = .ok (.bipush 117, 2) := by decide +kernel
theorem dX12_init_563 : decode cX12_init 563 = .ok (.castore, 1) := by decide +kernel
theorem dX12_init_564 : decode cX12_init 564 = .ok (.dup, 1) := by decide +kernel
theorem dX12_init_565 : decode cX12_init 565 = .ok (.iconst 3, 1) := by decide +kernel
theorem dX12_init_566 : decode cX12_init 566 = .ok (.bipush 110, 2) := by decide +kernel
theorem dX12_init_568 : decode cX12_init 568 = .ok (.castore, 1) := by decide +kernel
theorem dX12_init_569 : decode cX12_init 569 = .ok (.dup, 1) := by decide +kernel
theorem dX12_init_570 : decode cX12_init 570 = .ok (.iconst 4, 1) := by decide +kernel
theorem dX12_init_571 : decode cX12_init 571 = .ok (.bipush 116, 2) := by decide +kernel
theorem dX12_init_573 : decode cX12_init 573 = .ok (.castore, 1) := by decide +kernel
theorem dX12_init_574 : decode cX12_init 574 = .ok (.putfield 69, 3) := by decide +kernel
theorem dX12_init_577 : decode cX12_init 577 = .ok (.aload_n 0, 1) := by decide +kernel
theorem dX12_init_578 : decode cX12_init 578 = .ok (.iconst 5, 1) := by decide +kernel
theorem dX12_init_579 : decode cX12_init 579 = .ok (.newarray .char, 2) := by decide +kernel
theorem dX12_init_581 : decode cX12_init 581 = .ok (.dup, 1) := by decide +kernel
theorem dX12_init_582 : decode cX12_init 582 = .ok (.iconst 0, 1) := by decide +kernel
theorem dX12_init_583 : decode cX12_init 583 = .ok (.bipush 102, 2) := by decide +kernel
theorem dX12_init_585 : decode cX12_init 585 = .ok (.castore, 1) := by decide +kernel
theorem dX12_init_586 : decode cX12_init 586 = .ok (.dup, 1) := by decide +kernel
theorem dX12_init_587 : decode cX12_init 587 = .ok (.iconst 1, 1) := by decide +kernel
theorem dX12_init_588 : decode cX12_init 588 = .ok (.bipush 114, 2) := by decide +kernel
theorem dX12_init_590 : decode cX12_init 590 = .ok (.castore, 1) := by decide +kernel
theorem dX12_init_591 : decode cX12_init 591 = .ok (.dup, 1) := by decide +kernel
theorem dX12_init_592 : decode cX12_init 592 = .ok (.iconst 2, 1) := by decide +kernel
theorem dX12_init_593 : decode cX12_init 593 = .ok (.bipush 101, 2) := by decide +kernel
theorem dX12_init_595 : decode cX12_init 595 = .ok (.castore, 1) := by decide +kernel
theorem dX12_init_596 : decode cX12_init 596 = .ok (.dup, 1) := by decide +kernel
theorem dX12_init_597 : decode cX12_init 597 = .ok (.iconst 3, 1) := by decide +kernel
theorem dX12_init_598 : decode cX12_init 598 = .ok (.bipush 115, 2) := by decide +kernel
theorem dX12_init_600 : decode cX12_init 600 = .ok (.castore, 1) := by decide +kernel
theorem dX12_init_601 : decode cX12_init 601 = .ok (.dup, 1) := by decide +kernel
theorem dX12_init_602 : decode cX12_init 602 = .ok (.iconst 4, 1) := by decide +kernel
theorem dX12_init_603 : decode cX12_init 603 = .ok (.bipush 104, 2) := by decide +kernel
theorem dX12_init_605 : decode cX12_init 605 = .ok (.castore, 1) := by decide +kernel
theorem dX12_init_606 : decode cX12_init 606 = .ok (.putfield 72, 3) := by decide +kernel
theorem dX12_init_609 : decode cX12_init 609 = .ok (.aload_n 0, 1) := by decide +kernel
theorem dX12_init_610 : decode cX12_init 610 = .ok (.iconst 5, 1) := by decide +kernel
theorem dX12_init_611 : decode cX12_init 611 = .ok (.newarray .char, 2) := by decide +kernel
theorem dX12_init_613 : decode cX12_init 613 = .ok (.dup, 1) := by decide +kernel
theorem dX12_init_614 : decode cX12_init 614 = .ok (.iconst 0, 1) := by decide +kernel
theorem dX12_init_615 : decode cX12_init 615 = .ok (.bipush 115, 2) := by decide +kernel
theorem dX12_init_617 : decode cX12_init 617 = .ok (.castore, 1) := by decide +kernel
theorem dX12_init_618 : decode cX12_init 618 = .ok (.dup, 1) := by decide +kernel
theorem dX12_init_619 : decode cX12_init 619 = .ok (.iconst 1, 1) := by decide +kernel
theorem dX12_init_620 : decode cX12_init 620 = .ok (.bipush 97, 2) := by decide +kernel
theorem dX12_init_622 : decode cX12_init 622 = .ok (.castore, 1) := by decide +kernel
theorem dX12_init_623 : decode cX12_init 623 = .ok (.dup, 1) := by decide +kernel
theorem dX12_init_624 : decode cX12_init 624 = .ok (.iconst 2, 1) := by decide +kernel
theorem dX12_init_625 : decode cX12_init 625 = .ok (.bipush 118, 2) := by decide +kernel
theorem dX12_init_627 : decode cX12_init 627 = .ok (.castore, 1) := by decide +kernel
theorem dX12_init_628 : decode cX12_init 628 = .ok (.dup, 1) := by decide +kernel
theorem dX12_init_629 : decode cX12_init 629 = .ok (.iconst 3, 1) := by decide +kernel
theorem dX12_init_630 : decode cX12_init 630 = .ok (.bipush 101, 2) := by decide +kernel
theorem dX12_init_632 : decode cX12_init 632 = .ok (.castore, 1) := by decide +kernel
theorem dX12_init_633 : decode cX12_init 633 = .ok (.dup, 1) := by decide +kernel
theorem dX12_init_634 : decode cX12_init 634 = .ok (.iconst 4, 1) := by decide +kernel
theorem dX12_init_635 : decode cX12_init 635 = .ok (.bipush 100, 2) := by decide +kernel
theorem dX12_init_637 : decode cX12_init 637 = .ok (.castore, 1) := by decide +kernel
theorem dX12_init_638 : decode cX12_init 638 = .ok (.putfield 75, 3) := by decide +kernel
theorem dX12_init_641 : decode cX12_init 641 = .ok (.aload_n 0, 1) := by decide +kernel
theorem dX12_init_642 : decode cX12_init 642 = .ok (.iconst 4, 1) := by decide +kernel
theorem dX12_init_643 : decode cX12_init 643 = .ok (.newarray .char, 2) := by decide +kernel
theorem dX12_init_645 : decode cX12_init 645 = .ok (.dup, 1) := by decide +kernel
theorem dX12_init_646 : decode cX12_init 646 = .ok (.iconst 0, 1) := by decide +kernel
theorem dX12_init_647 : decode cX12_init 647 = .ok (.bipush 114, 2) := by decide +kernel
theorem dX12_init_649 : decode cX12_init 649 = .ok (.castore, 1) := by decide +kernel
theorem dX12_init_650 : decode cX12_init 650 = .ok (.dup, 1) := by decide +kernel
theorem dX12_init_651 : decode cX12_init 651 = .ok (.iconst 1, 1) := by decide +kernel
theorem dX12_init_652 : decode cX12_init 652 = .ok (.bipush 101, 2) := by decide +kernel
theorem dX12_init_654 : decode cX12_init 654 = .ok (.castore, 1) := by decide +kernel
theorem dX12_init_655 : decode cX12_init 655 = .ok (.dup, 1) := by decide +kernel
theorem dX12_init_656 : decode cX12_init 656 = .ok (.iconst 2, 1) := by decide +kernel
theorem dX12_init_657 : decode cX12_init 657 = .ok (.bipush 102, 2) := by decide +kernel
theorem dX12_init_659 : decode cX12_init 659 = .ok (.castore, 1) := by decide +kernel
theorem dX12_init_660 : decode cX12_init 660 = .ok (.dup, 1) := by decide +kernel
theorem dX12_init_661 : decode cX12_init 661 = .ok (.iconst 3, 1) := by decide +kernel
theorem dX12_init_662 : decode cX12_init 662 = .ok (.bipush 115, 2) := by decide +kernel
theorem dX12_init_664 : decode cX12_init 664 = .ok (.castore, 1) := by decide +kernel
theorem dX12_init_665 : decode cX12_init 665 = .ok (.putfield 78, 3) := by decide +kernel
theorem dX12_init_668 : decode cX12_init 668 = .ok (.aload_n 0, 1) := by decide +kernel
theorem dX12_init_669 : decode cX12_init 669 = .ok (.iconst 3, 1) := by decide +kernel
theorem dX12_init_670 : decode cX12_init 670 = .ok (.newarray .char, 2) := by decide +kernel
theorem dX12_init_672 : decode cX12_init 672 = .ok (.dup, 1) := by decide +kernel
theorem dX12_init_673 : decode cX12_init 673 = .ok (.iconst 0, 1) := by decide +kernel
theorem dX12_init_674 : decode cX12_init 674 = .ok (.bipush 107, 2) := by decide +kernel
theorem dX12_init_676 : decode cX12_init 676 = .ok (.castore, 1) := by decide +kernel
theorem dX12_init_677 : decode cX12_init 677 = .ok (.dup, 1) := by decide +kernel
theorem dX12_init_678 : decode cX12_init 678 = .ok (.iconst 1, 1) := by decide +kernel
theorem dX12_init_679 : decode cX12_init 679 = .ok (.bipush 101, 2) := by decide +kernel
theorem dX12_init_681 : decode cX12_init 681 = .ok (.castore, 1) := by decide +kernel
theorem dX12_init_682 : decode cX12_init 682 = .ok (.dup, 1) := by decide +kernel
theorem dX12_init_683 : decode cX12_init 683 = .ok (.iconst 2, 1) := by decide +kernel
theorem dX12_init_684 : decode cX12_init 684 = .ok (.bipush 121, 2) := by decide +kernel
theorem dX12_init_686 : decode cX12_init 686 = .ok (.castore, 1) := by decide +kernel
theorem dX12_init_687 : decode cX12_init 687 = .ok (.putfield 81, 3) := by decide +kernel
theorem dX12_init_690 : decode cX12_init 690 = .ok (.aload_n 0, 1) := by decide +kernel
theorem dX12_init_691 : decode cX12_init 691 = .ok (.iconst 2, 1) := by decide +kernel
theorem dX12_init_692 : decode cX12_init 692 = .ok (.newarray .char, 2) := by decide +kernel
theorem dX12_init_694 : decode cX12_init 694 = .ok (.dup, 1) := by decide +kernel
theorem dX12_init_695 : decode cX12_init 695 = .ok (.iconst 0, 1) := by decide +kernel
theorem dX12_init_696 : decode cX12_init 696 = .ok (.bipush 111, 2) := by decide +kernel
theorem dX12_init_698 : decode cX12_init 698 = .ok (.castore, 1) := by decide +kernel
theorem dX12_init_699 : decode cX12_init 699 = .ok (.dup, 1) := by decide +kernel
theorem dX12_init_700 : decode cX12_init 700 = .ok (.iconst 1, 1) := by decide +kernel
theorem dX12_init_701 : decode cX12_init 701 = .ok (.bipush 114, 2) := by decide +kernel
theorem dX12_init_703 : decode cX12_init 703 = .ok (.castore, 1) := by decide +kernel
theorem dX12_init_704 : decode cX12_init 704 = .ok (.putfield 84, 3) := by decide +kernel
theorem dX12_init_707 : decode cX12_init 707 = .ok (.aload_n 0, 1) := by decide +kernel
theorem dX12_init_708 : decode cX12_init 708 = .ok (.iconst 3, 1) := by decide +kernel
theorem dX12_init_709 : decode cX12_init 709 = .ok (.newarray .char, 2) := by decide +kernel
theorem dX12_init_711 : decode cX12_init 711 = .ok (.dup, 1) := by decide +kernel
theorem dX12_init_712 : decode cX12_init 712 = .ok (.iconst 0, 1) := by decide +kernel
theorem dX12_init_713 : decode cX12_init 713 = .ok (.bipush 97, 2) := by decide +kernel
theorem dX12_init_715 : decode cX12_init 715 = .ok (.castore, 1) := by decide +kernel
theorem dX12_init_716 : decode cX12_init 716 = .ok (.dup, 1) := by decide +kernel
theorem dX12_init_717 : decode cX12_init 717 = .ok (.iconst 1, 1) := by decide +kernel
theorem dX12_init_718 : decode cX12_init 718 = .ok (.bipush 110, 2) := by decide +kernel
theorem dX12_init_720 : decode cX12_init 720 = .ok (.castore, 1) := by decide +kernel
theorem dX12_init_721 : decode cX12_init 721 = .ok (.dup, 1) := by decide +kernel
theorem dX12_init_722 : decode cX12_init 722 = .ok (.iconst 2, 1) := by decide +kernel
theorem dX12_init_723 : decode cX12_init 723 = .ok (.bipush 100, 2) := by decide +kernel
theorem dX12_init_725 : decode cX12_init 725 = .ok (.castore, 1) := by decide +kernel
theorem dX12_init_726 : decode cX12_init 726 = .ok (.putfield 87, 3) := by decide +kernel
theorem dX12_init_729 : decode cX12_init 729 = .ok (.aload_n 0, 1) := by decide +kernel
theorem dX12_init_730 : decode cX12_init 730 = .ok (.iconst 3, 1) := by decide +kernel
theorem dX12_init_731 : decode cX12_init 731 = .ok (.newarray .char, 2) := by decide +kernel
theorem dX12_init_733 : decode cX12_init 733 = .ok (.dup, 1) := by decide +kernel
theorem dX12_init_734 : decode cX12_init 734 = .ok (.iconst 0, 1) := by decide +kernel
theorem dX12_init_735 : decode cX12_init 735 = .ok (.bipush 110, 2) := by decide +kernel
theorem dX12_init_737 : decode cX12_init 737 = .ok (.castore, 1) := by decide +kernel
theorem dX12_init_738 : decode cX12_init 738 = .ok (.dup, 1) := by decide +kernel
theorem dX12_init_739 : decode cX12_init 739 = .ok (.iconst 1, 1) := by decide +kernel
theorem dX12_init_740 : decode cX12_init 740 = .ok (.bipush 111, 2) := by decide +kernel
theorem dX12_init_742 : decode cX12_init 742 = .ok (.castore, 1) := by decide +kernel
theorem dX12_init_743 : decode cX12_init 743 = .ok (.dup, 1) := by decide +kernel
theorem dX12_init_744 : decode cX12_init 744 = .ok (.iconst 2, 1) := by decide +kernel
theorem dX12_init_745 : decode cX12_init 745 = .ok (.bipush 116, 2) := by decide +kernel
theorem dX12_init_747 : decode cX12_init 747 = .ok (.castore, 1) := by decide +kernel
theorem dX12_init_748 : decode cX12_init 748 = .ok (.putfield 90, 3) := by decide +kernel
theorem dX12_init_751 : decode cX12_init 751 = .ok (.aload_n 0, 1) := by decide +kernel
theorem dX12_init_752 : decode cX12_init 752 = .ok (.iconst 3, 1) := by decide +kernel
theorem dX12_init_753 : decode cX12_init 753 = .ok (.newarray .char, 2) := by decide +kernel
theorem dX12_init_755 : decode cX12_init 755 = .ok (.dup, 1) := by decide +kernel
theorem dX12_init_756 : decode cX12_init 756 = .ok (.iconst 0, 1) := by decide +kernel
theorem dX12_init_757 : decode cX12_init 757 = .ok (.bipush 97, 2) := by decide +kernel
theorem dX12_init_759 : decode cX12_init 759 = .ok (.castore, 1) := by decide +kernel
theorem dX12_init_760 : decode cX12_init 760 = .ok (.dup, 1) := by decide +kernel
theorem dX12_init_761 : decode cX12_init 761 = .ok (.iconst 1, 1) := by decide +kernel
theorem dX12_init_762 : decode cX12_init 762 = .ok (.bipush 108, 2) := by decide +kernel
theorem dX12_init_764 : decode cX12_init 764 = .ok (.castore, 1) := by decide +kernel
theorem dX12_init_765 : decode cX12_init 765 = .ok (.dup, 1) := by decide +kernel
theorem dX12_init_766 : decode cX12_init 766 = .ok (.iconst 2, 1) := by decide +kernel
theorem dX12_init_767 : decode cX12_init 767 = .ok (.bipush 108, 2) := by decide +kernel
theorem dX12_init_769 : decode cX12_init 769 = .ok (.castore, 1) := by decide +kernel
theorem dX12_init_770 : decode cX12_init 770 = .ok (.putfield 93, 3) := by decide +kernel
theorem dX12_init_773 : decode cX12_init 773 = .ok (.aload_n 0, 1) := by decide +kernel
theorem dX12_init_774 : decode cX12_init 774 = .ok (.iconst 3, 1) := by decide +kernel
theorem dX12_init_775 : decode cX12_init 775 = .ok (.newarray .char, 2) := by decide +kernel
theorem dX12_init_777 : decode cX12_init 777 = .ok (.dup, 1) := by decide +kernel
theorem dX12_init_778 : decode cX12_init 778 = .ok (.iconst 0, 1) := by decide +kernel
theorem dX12_init_779 : decode cX12_init 779 = .ok (.bipush 109, 2) := by decide +kernel
theorem dX12_init_781 : decode cX12_init 781 = .ok (.castore, 1) := by decide +kernel
theorem dX12_init_782 : decode cX12_init 782 = .ok (.dup, 1) := by decide +kernel
theorem dX12_init_783 : decode cX12_init 783 = .ok (.iconst 1, 1) := by decide +kernel
theorem dX12_init_784 : decode cX12_init 784 = .ok (.bipush 105, 2) := by decide +kernel
theorem dX12_init_786 : decode cX12_init 786 = .ok (.castore, 1) := by decide +kernel
theorem dX12_init_787 : decode cX12_init 787 = .ok (.dup, 1) := by decide +kernel
theorem dX12_init_788 : decode cX12_init 788 = .ok (.iconst 2, 1) := by decide +kernel
theorem dX12_init_789 : decode cX12_init 789 = .ok (.bipush 110, 2) := by decide +kernel
theorem dX12_init_791 : decode cX12_init 791 = .ok (.castore, 1) := by decide +kernel
theorem dX12_init_792 : decode cX12_init 792 = .ok (.putfield 96, 3) := by decide +kernel
theorem dX12_init_795 : decode cX12_init 795 = .ok (.aload_n 0, 1) := by decide +kernel
theorem dX12_init_796 : decode cX12_init 796 = .ok (.iconst 3, 1) := by decide +kernel
theorem dX12_init_797 : decode cX12_init 797 = .ok (.newarray .char, 2) := by decide +kernel
theorem dX12_init_799 : decode cX12_init 799 = .ok (.dup, 1) := by decide +kernel
theorem dX12_init_800 : decode cX12_init 800 = .ok (.iconst 0, 1) := by decide +kernel
theorem dX12_init_801 : decode cX12_init 801 = .ok (.bipush 109, 2) := by decide +kernel
theorem dX12_init_803 : decode cX12_init 803 = .ok (.castore, 1) := by decide +kernel
theorem dX12_init_804 : decode cX12_init 804 = .ok (.dup, 1) := by decide +kernel
theorem dX12_init_805 : decode cX12_init 805 = .ok (.iconst 1, 1) := by decide +kernel
theorem dX12_init_806 : decode cX12_init 806 = .ok (.bipush 97, 2) := by decide +kernel
theorem dX12_init_808 : decode cX12_init 808 = .ok (.castore, 1) := by decide +kernel
theorem dX12_init_809 : decode cX12_init 809 = .ok (.dup, 1) := by decide +kernel
theorem dX12_init_810 : decode cX12_init 810 = .ok (.iconst 2, 1) := by decide +kernel
theorem dX12_init_811 : decode cX12_init 811 = .ok (.bipush 120, 2) := by decide +kernel
theorem dX12_init_813 : decode cX12_init 813 = .ok (.castore, 1) := by decide +kernel
theorem dX12_init_814 : decode cX12_init 814 = .ok (.putfield 99, 3) := by decide +kernel
theorem dX12_init_817 : decode cX12_init 817 = .ok (.aload_n 0, 1) := by decide +kernel
theorem dX12_init_818 : decode cX12_init 818 = .ok (.bipush 10, 2) := by decide +kernel
theorem dX12_init_820 : decode cX12_init 820 = .ok (.newarray .int, 2) := by decide +kernel
theorem dX12_init_822 : decode cX12_init 822 = .ok (.putfield 102, 3) := by decide +kernel
theorem dX12_init_825 : decode cX12_init 825 = .ok (.aload_n 0, 1) := by decide +kernel
theorem dX12_init_826 : decode cX12_init 826 = .ok (.bipush 16, 2) := by decide +kernel
theorem dX12_init_828 : decode cX12_init 828 = .ok (.newarray .long, 2) := by decide +kernel
theorem dX12_init_830 : decode cX12_init 830 = .ok (.putfield 105, 3) := by decide +kernel
theorem dX12_init_833 : decode cX12_init 833 = .ok (.aload_n 0, 1) := by decide +kernel
theorem dX12_init_834 : decode cX12_init 834 = .ok (.sipush 240, 3) := by decide +kernel
theorem dX12_init_837 : decode cX12_init 837 = .ok (.newarray .int, 2) := by decide +kernel
theorem dX12_init_839 : decode cX12_init 839 = .ok (.putfield 109, 3) := by decide +kernel
theorem dX12_init_842 : decode cX12_init 842 = .ok (.aload_n 0, 1) := by decide +kernel
theorem dX12_init_843 : decode cX12_init 843 = .ok (.bipush 6, 2) := by decide +kernel
theorem dX12_init_845 : decode cX12_init 845 = .ok (.newarray .int, 2) := by decide +kernel
theorem dX12_init_847 : decode cX12_init 847 = .ok (.dup, 1) := by decide +kernel
theorem dX12_init_848 : decode cX12_init 848 = .ok (.iconst 0, 1) := by decide +kernel
theorem dX12_init_849 : decode cX12_init 849 = .ok (.iconst (-1), 1) := by decide +kernel
theorem dX12_init_850 : decode cX12_init 850 = .ok (.iastore, 1) := by decide +kernel
theorem dX12_init_851 : decode cX12_init 851 = .ok (.dup, 1) := by decide +kernel
theorem dX12_init_852 : decode cX12_init 852 = .ok (.iconst 1, 1) := by decide +kernel
theorem dX12_init_853 : decode cX12_init 853 = .ok (.iconst (-1), 1) := by decide +kernel
theorem dX12_init_854 : decode cX12_init 854 = .ok (.iastore, 1) := by decide +kernel
theorem dX12_init_855 : decode cX12_init 855 = .ok (.dup, 1) := by decide +kernel
theorem dX12_init_856 : decode cX12_init 856 = .ok (.iconst 2, 1) := by decide +kernel
theorem dX12_init_857 : decode cX12_init 857 = .ok (.iconst (-1), 1) := by decide +kernel
theorem dX12_init_858 : decode cX12_init 858 = .ok (.iastore, 1) := by decide +kernel
theorem dX12_init_859 : decode cX12_init 859 = .ok (.dup, 1) := by decide +kernel
theorem dX12_init_860 : decode cX12_init 860 = .ok (.iconst 3, 1) := by decide +kernel
theorem dX12_init_861 : decode cX12_init 861 = .ok (.iconst (-1), 1) := by decide +kernel
theorem dX12_init_862 : decode cX12_init 862 = .ok (.iastore, 1) := by decide +kernel
theorem dX12_init_863 : decode cX12_init 863 = .ok (.dup, 1) := by decide +kernel
theorem dX12_init_864 : decode cX12_init 864 = .ok (.iconst 4, 1) := by decide +kernel
theorem dX12_init_865 : decode cX12_init 865 = .ok (.iconst (-1), 1) := by decide +kernel
theorem dX12_init_866 : decode cX12_init 866 = .ok (.iastore, 1) := by decide +kernel
theorem dX12_init_867 : decode cX12_init 867 = .ok (.dup, 1) := by decide +kernel
theorem dX12_init_868 : decode cX12_init 868 = .ok (.iconst 5, 1) := by decide +kernel
theorem dX12_init_869 : decode cX12_init 869 = .ok (.iconst (-1), 1) := by decide +kernel
theorem dX12_init_870 : decode cX12_init 870 = .ok (.iastore, 1) := by decide +kernel
theorem dX12_init_871 : decode cX12_init 871 = .ok (.putfield 112, 3) := by decide +kernel
set_option maxHeartbeats 4000000 in
set_option maxRecDepth 100000 in
theorem cM_7 {p : Program} {l : Launch} {e : Env} {R : Room} {s : State} {m : MethodId} {args : Array Value} {below : List Frame} {meth : Method} {c : Code} {Q : State → Prop} {D : va_G} {A : Nat → Prop} {ls : Array Slot} {h0 : Nat} {T : va_W} (hx : p.tables.exec = Jvm.exec) (hb : c.code = cX12_init) (ht : ∀ w ∈ lw_gd, w.before args s = true) (hown : s.vm.findClass RX12 = some m.cls) (hin : meth.name = "<init>") (hK : va_K D vwCl (TY D) s) (hA : ∀ q : Nat, s.heap.size ≤ q → A q) (hRc : 80 ≤ R.cells) (hRs : 35050 ≤ R.slots) (hl : lv_has ls 1 [(0, .ref h0)]) {fs : List Value} (hlen : fs.length = 116) {H : Heap} {locs : List Loc} (hP : va_P D vwCl ((h0, .inr (12, fs)) :: T) H) (hD : va_D A ((h0, .inr (12, fs)) :: T)) (hS : va_S A s.heap H locs)
    (kk : ∀ (q_36 : Nat) (q_34 : Nat) (fs' : List Value) (H : Heap) (locs : List Loc), fs' = ((fs.set 25 (.ref q_34)).set 26 (.ref q_36)) → va_P D vwCl ((h0, .inr (12, fs')) :: (q_36, .inl (D.1 14, 6, .inl (upd (upd (upd (upd (upd (upd (fun _ => 0) 0 110) 1 117) 2 109) 3 98) 4 101) 5 114))) :: (q_34, .inl (D.1 14, 7, .inl (upd (upd (upd (upd (upd (upd (upd (fun _ => 0) 0 101) 1 110) 2 116) 3 114) 4 105) 5 101) 6 115))) :: T) H → va_D A ((h0, .inr (12, fs')) :: (q_36, .inl (D.1 14, 6, .inl (upd (upd (upd (upd (upd (upd (fun _ => 0) 0 110) 1 117) 2 109) 3 98) 4 101) 5 114))) :: (q_34, .inl (D.1 14, 7, .inl (upd (upd (upd (upd (upd (upd (upd (fun _ => 0) 0 101) 1 110) 2 116) 3 114) 4 105) 5 101) 6 115))) :: T) → va_S A s.heap H locs → W p l e R s m args below meth c H locs 18 1686 Q (F0 m 545 ls [])) : W p l e R s m args below meth c H locs 16 1673 Q (F0 m 463 ls []) := by
  refine lv_aload_n hx hb dX12_init_463 rfl (lv_at hl 0 rfl) ?_
  refine lv_bipush (v := 7) hx hb dX12_init_464 (by decide) ?_
  refine va_newa (atype := .char) (a0 := (7, .inl (fun _ => 0))) (ty := .char) (N' := 7) hx hb (ht _ ac_char) rfl hK hP hD hS hA (fun _ => rfl) (by decide) (by decide) (by decide) (Nat.le_trans (Nat.le_of_ble_eq_true rfl) hRc) (Nat.le_trans (Nat.le_of_ble_eq_true rfl) hRs) dX12_init_466 (fun q_34 cA H hK2 hP hD hS => ?_)
  obtain rfl := z_cls_char hK hK2
  refine W.widen (k := 17) (n := 1680) (Nat.le_of_ble_eq_true rfl) (Nat.le_of_ble_eq_true rfl) ?_
  obtain ⟨hP, hD⟩ := z_rot hP hD
  have hP : va_P D vwCl ((h0, .inr (12, fs)) :: (q_34, .inl (D.1 14, 7, .inl (fun _ => 0))) :: T) H := hP
  have hD : va_D A ((h0, .inr (12, fs)) :: (q_34, .inl (D.1 14, 7, .inl (fun _ => 0))) :: T) := hD
  refine lv_dup hx hb dX12_init_468 rfl ?_
  refine lv_iconst (v := 0) hx hb dX12_init_469 (by decide) ?_
  refine lv_bipush (v := 101) hx hb dX12_init_470 (by decide) ?_
  refine va_cast hx hb hK hP hD hS 1 1 rfl rfl (z_in (by decide) (by decide)) dX12_init_472 (fun H locs hP hD hS => ?_)
  have hP : va_P D vwCl ((h0, .inr (12, fs)) :: (q_34, .inl (D.1 14, 7, .inl (upd (fun _ => 0) 0 101))) :: T) H := hP
  have hD : va_D A ((h0, .inr (12, fs)) :: (q_34, .inl (D.1 14, 7, .inl (upd (fun _ => 0) 0 101))) :: T) := hD
  refine lv_dup hx hb dX12_init_473 rfl ?_
  refine lv_iconst (v := 1) hx hb dX12_init_474 (by decide) ?_
  refine lv_bipush (v := 110) hx hb dX12_init_475 (by decide) ?_
  refine va_cast hx hb hK hP hD hS 1 1 rfl rfl (z_in (by decide) (by decide)) dX12_init_477 (fun H locs hP hD hS => ?_)
  have hP : va_P D vwCl ((h0, .inr (12, fs)) :: (q_34, .inl (D.1 14, 7, .inl (upd (upd (fun _ => 0) 0 101) 1 110))) :: T) H := hP
  have hD : va_D A ((h0, .inr (12, fs)) :: (q_34, .inl (D.1 14, 7, .inl (upd (upd (fun _ => 0) 0 101) 1 110))) :: T) := hD
  refine lv_dup hx hb dX12_init_478 rfl ?_
  refine lv_iconst (v := 2) hx hb dX12_init_479 (by decide) ?_
  refine lv_bipush (v := 116) hx hb dX12_init_480 (by decide) ?_
  refine va_cast hx hb hK hP hD hS 1 1 rfl rfl (z_in (by decide) (by decide)) dX12_init_482 (fun H locs hP hD hS => ?_)
  have hP : va_P D vwCl ((h0, .inr (12, fs)) :: (q_34, .inl (D.1 14, 7, .inl (upd (upd (upd (fun _ => 0) 0 101) 1 110) 2 116))) :: T) H := hP
  have hD : va_D A ((h0, .inr (12, fs)) :: (q_34, .inl (D.1 14, 7, .inl (upd (upd (upd (fun _ => 0) 0 101) 1 110) 2 116))) :: T) := hD
  refine lv_dup hx hb dX12_init_483 rfl ?_
  refine lv_iconst (v := 3) hx hb dX12_init_484 (by decide) ?_
  refine lv_bipush (v := 114) hx hb dX12_init_485 (by decide) ?_
  refine va_cast hx hb hK hP hD hS 1 1 rfl rfl (z_in (by decide) (by decide)) dX12_init_487 (fun H locs hP hD hS => ?_)
  have hP : va_P D vwCl ((h0, .inr (12, fs)) :: (q_34, .inl (D.1 14, 7, .inl (upd (upd (upd (upd (fun _ => 0) 0 101) 1 110) 2 116) 3 114))) :: T) H := hP
  have hD : va_D A ((h0, .inr (12, fs)) :: (q_34, .inl (D.1 14, 7, .inl (upd (upd (upd (upd (fun _ => 0) 0 101) 1 110) 2 116) 3 114))) :: T) := hD
  refine lv_dup hx hb dX12_init_488 rfl ?_
  refine lv_iconst (v := 4) hx hb dX12_init_489 (by decide) ?_
  refine lv_bipush (v := 105) hx hb dX12_init_490 (by decide) ?_
  refine va_cast hx hb hK hP hD hS 1 1 rfl rfl (z_in (by decide) (by decide)) dX12_init_492 (fun H locs hP hD hS => ?_)
  have hP : va_P D vwCl ((h0, .inr (12, fs)) :: (q_34, .inl (D.1 14, 7, .inl (upd (upd (upd (upd (upd (fun _ => 0) 0 101) 1 110) 2 116) 3 114) 4 105))) :: T) H := hP
  have hD : va_D A ((h0, .inr (12, fs)) :: (q_34, .inl (D.1 14, 7, .inl (upd (upd (upd (upd (upd (fun _ => 0) 0 101) 1 110) 2 116) 3 114) 4 105))) :: T) := hD
  refine lv_dup hx hb dX12_init_493 rfl ?_
  refine lv_iconst (v := 5) hx hb dX12_init_494 (by decide) ?_
  refine lv_bipush (v := 101) hx hb dX12_init_495 (by decide) ?_
  refine va_cast hx hb hK hP hD hS 1 1 rfl rfl (z_in (by decide) (by decide)) dX12_init_497 (fun H locs hP hD hS => ?_)
  have hP : va_P D vwCl ((h0, .inr (12, fs)) :: (q_34, .inl (D.1 14, 7, .inl (upd (upd (upd (upd (upd (upd (fun _ => 0) 0 101) 1 110) 2 116) 3 114) 4 105) 5 101))) :: T) H := hP
  have hD : va_D A ((h0, .inr (12, fs)) :: (q_34, .inl (D.1 14, 7, .inl (upd (upd (upd (upd (upd (upd (fun _ => 0) 0 101) 1 110) 2 116) 3 114) 4 105) 5 101))) :: T) := hD
  refine lv_dup hx hb dX12_init_498 rfl ?_
  refine lv_bipush (v := 6) hx hb dX12_init_499 (by decide) ?_
  refine lv_bipush (v := 115) hx hb dX12_init_501 (by decide) ?_
  refine va_cast hx hb hK hP hD hS 1 1 rfl rfl (z_in (by decide) (by decide)) dX12_init_503 (fun H locs hP hD hS => ?_)
  have hP : va_P D vwCl ((h0, .inr (12, fs)) :: (q_34, .inl (D.1 14, 7, .inl (upd (upd (upd (upd (upd (upd (upd (fun _ => 0) 0 101) 1 110) 2 116) 3 114) 4 105) 5 101) 6 115))) :: T) H := hP
  have hD : va_D A ((h0, .inr (12, fs)) :: (q_34, .inl (D.1 14, 7, .inl (upd (upd (upd (upd (upd (upd (upd (fun _ => 0) 0 101) 1 110) 2 116) 3 114) 4 105) 5 101) 6 115))) :: T) := hD
  refine va_putF (D := D) (ci := 12) (v := .ref q_34) (ty := .array .char) (C := RX12) (T := TX12) (N := 116) hx hb ht inX12 tyX12 tyX12_ok nmX12 hown hK hP hD hS 0 rfl rfl 25 (by decide) (ht (.fieldLink RX12 63 "CloneVolumesModel" "entriesWord" "[C") fl_X12_63) (fun _ h9 => h9) rfl hin rfl (by decide +kernel) rfl rfl (by rw [hlen]; decide) dX12_init_504 (fun H locs hP hD hS => ?_)
  have hP : va_P D vwCl ((h0, .inr (12, (fs.set 25 (.ref q_34)))) :: (q_34, .inl (D.1 14, 7, .inl (upd (upd (upd (upd (upd (upd (upd (fun _ => 0) 0 101) 1 110) 2 116) 3 114) 4 105) 5 101) 6 115))) :: T) H := hP
  have hD : va_D A ((h0, .inr (12, (fs.set 25 (.ref q_34)))) :: (q_34, .inl (D.1 14, 7, .inl (upd (upd (upd (upd (upd (upd (upd (fun _ => 0) 0 101) 1 110) 2 116) 3 114) 4 105) 5 101) 6 115))) :: T) := hD
  generalize hfs_35 : fs.set 25 (.ref q_34) = fs_35 at hP hD
  have hlen : fs_35.length = 116 := by rw [← hfs_35, List.length_set]; exact hlen
  have hP : va_P D vwCl ((h0, .inr (12, fs_35)) :: (q_34, .inl (D.1 14, 7, .inl (upd (upd (upd (upd (upd (upd (upd (fun _ => 0) 0 101) 1 110) 2 116) 3 114) 4 105) 5 101) 6 115))) :: T) H := hP
  have hD : va_D A ((h0, .inr (12, fs_35)) :: (q_34, .inl (D.1 14, 7, .inl (upd (upd (upd (upd (upd (upd (upd (fun _ => 0) 0 101) 1 110) 2 116) 3 114) 4 105) 5 101) 6 115))) :: T) := hD
  refine lv_aload_n hx hb dX12_init_507 rfl (lv_at hl 0 rfl) ?_
  refine lv_bipush (v := 6) hx hb dX12_init_508 (by decide) ?_
  refine va_newa (atype := .char) (a0 := (6, .inl (fun _ => 0))) (ty := .char) (N' := 6) hx hb (ht _ ac_char) rfl hK hP hD hS hA (fun _ => rfl) (by decide) (by decide) (by decide) (Nat.le_trans (Nat.le_of_ble_eq_true rfl) hRc) (Nat.le_trans (Nat.le_of_ble_eq_true rfl) hRs) dX12_init_510 (fun q_36 cA H hK2 hP hD hS => ?_)
  obtain rfl := z_cls_char hK hK2
  refine W.widen (k := 18) (n := 1686) (Nat.le_of_ble_eq_true rfl) (Nat.le_of_ble_eq_true rfl) ?_
  obtain ⟨hP, hD⟩ := z_rot hP hD
  have hP : va_P D vwCl ((h0, .inr (12, fs_35)) :: (q_36, .inl (D.1 14, 6, .inl (fun _ => 0))) :: (q_34, .inl (D.1 14, 7, .inl (upd (upd (upd (upd (upd (upd (upd (fun _ => 0) 0 101) 1 110) 2 116) 3 114) 4 105) 5 101) 6 115))) :: T) H := hP
  have hD : va_D A ((h0, .inr (12, fs_35)) :: (q_36, .inl (D.1 14, 6, .inl (fun _ => 0))) :: (q_34, .inl (D.1 14, 7, .inl (upd (upd (upd (upd (upd (upd (upd (fun _ => 0) 0 101) 1 110) 2 116) 3 114) 4 105) 5 101) 6 115))) :: T) := hD
  refine lv_dup hx hb dX12_init_512 rfl ?_
  refine lv_iconst (v := 0) hx hb dX12_init_513 (by decide) ?_
  refine lv_bipush (v := 110) hx hb dX12_init_514 (by decide) ?_
  refine va_cast hx hb hK hP hD hS 1 1 rfl rfl (z_in (by decide) (by decide)) dX12_init_516 (fun H locs hP hD hS => ?_)
  have hP : va_P D vwCl ((h0, .inr (12, fs_35)) :: (q_36, .inl (D.1 14, 6, .inl (upd (fun _ => 0) 0 110))) :: (q_34, .inl (D.1 14, 7, .inl (upd (upd (upd (upd (upd (upd (upd (fun _ => 0) 0 101) 1 110) 2 116) 3 114) 4 105) 5 101) 6 115))) :: T) H := hP
  have hD : va_D A ((h0, .inr (12, fs_35)) :: (q_36, .inl (D.1 14, 6, .inl (upd (fun _ => 0) 0 110))) :: (q_34, .inl (D.1 14, 7, .inl (upd (upd (upd (upd (upd (upd (upd (fun _ => 0) 0 101) 1 110) 2 116) 3 114) 4 105) 5 101) 6 115))) :: T) := hD
  refine lv_dup hx hb dX12_init_517 rfl ?_
  refine lv_iconst (v := 1) hx hb dX12_init_518 (by decide) ?_
  refine lv_bipush (v := 117) hx hb dX12_init_519 (by decide) ?_
  refine va_cast hx hb hK hP hD hS 1 1 rfl rfl (z_in (by decide) (by decide)) dX12_init_521 (fun H locs hP hD hS => ?_)
  have hP : va_P D vwCl ((h0, .inr (12, fs_35)) :: (q_36, .inl (D.1 14, 6, .inl (upd (upd (fun _ => 0) 0 110) 1 117))) :: (q_34, .inl (D.1 14, 7, .inl (upd (upd (upd (upd (upd (upd (upd (fun _ => 0) 0 101) 1 110) 2 116) 3 114) 4 105) 5 101) 6 115))) :: T) H := hP
  have hD : va_D A ((h0, .inr (12, fs_35)) :: (q_36, .inl (D.1 14, 6, .inl (upd (upd (fun _ => 0) 0 110) 1 117))) :: (q_34, .inl (D.1 14, 7, .inl (upd (upd (upd (upd (upd (upd (upd (fun _ => 0) 0 101) 1 110) 2 116) 3 114) 4 105) 5 101) 6 115))) :: T) := hD
  refine lv_dup hx hb dX12_init_522 rfl ?_
  refine lv_iconst (v := 2) hx hb dX12_init_523 (by decide) ?_
  refine lv_bipush (v := 109) hx hb dX12_init_524 (by decide) ?_
  refine va_cast hx hb hK hP hD hS 1 1 rfl rfl (z_in (by decide) (by decide)) dX12_init_526 (fun H locs hP hD hS => ?_)
  have hP : va_P D vwCl ((h0, .inr (12, fs_35)) :: (q_36, .inl (D.1 14, 6, .inl (upd (upd (upd (fun _ => 0) 0 110) 1 117) 2 109))) :: (q_34, .inl (D.1 14, 7, .inl (upd (upd (upd (upd (upd (upd (upd (fun _ => 0) 0 101) 1 110) 2 116) 3 114) 4 105) 5 101) 6 115))) :: T) H := hP
  have hD : va_D A ((h0, .inr (12, fs_35)) :: (q_36, .inl (D.1 14, 6, .inl (upd (upd (upd (fun _ => 0) 0 110) 1 117) 2 109))) :: (q_34, .inl (D.1 14, 7, .inl (upd (upd (upd (upd (upd (upd (upd (fun _ => 0) 0 101) 1 110) 2 116) 3 114) 4 105) 5 101) 6 115))) :: T) := hD
  refine lv_dup hx hb dX12_init_527 rfl ?_
  refine lv_iconst (v := 3) hx hb dX12_init_528 (by decide) ?_
  refine lv_bipush (v := 98) hx hb dX12_init_529 (by decide) ?_
  refine va_cast hx hb hK hP hD hS 1 1 rfl rfl (z_in (by decide) (by decide)) dX12_init_531 (fun H locs hP hD hS => ?_)
  have hP : va_P D vwCl ((h0, .inr (12, fs_35)) :: (q_36, .inl (D.1 14, 6, .inl (upd (upd (upd (upd (fun _ => 0) 0 110) 1 117) 2 109) 3 98))) :: (q_34, .inl (D.1 14, 7, .inl (upd (upd (upd (upd (upd (upd (upd (fun _ => 0) 0 101) 1 110) 2 116) 3 114) 4 105) 5 101) 6 115))) :: T) H := hP
  have hD : va_D A ((h0, .inr (12, fs_35)) :: (q_36, .inl (D.1 14, 6, .inl (upd (upd (upd (upd (fun _ => 0) 0 110) 1 117) 2 109) 3 98))) :: (q_34, .inl (D.1 14, 7, .inl (upd (upd (upd (upd (upd (upd (upd (fun _ => 0) 0 101) 1 110) 2 116) 3 114) 4 105) 5 101) 6 115))) :: T) := hD
  refine lv_dup hx hb dX12_init_532 rfl ?_
  refine lv_iconst (v := 4) hx hb dX12_init_533 (by decide) ?_
  refine lv_bipush (v := 101) hx hb dX12_init_534 (by decide) ?_
  refine va_cast hx hb hK hP hD hS 1 1 rfl rfl (z_in (by decide) (by decide)) dX12_init_536 (fun H locs hP hD hS => ?_)
  have hP : va_P D vwCl ((h0, .inr (12, fs_35)) :: (q_36, .inl (D.1 14, 6, .inl (upd (upd (upd (upd (upd (fun _ => 0) 0 110) 1 117) 2 109) 3 98) 4 101))) :: (q_34, .inl (D.1 14, 7, .inl (upd (upd (upd (upd (upd (upd (upd (fun _ => 0) 0 101) 1 110) 2 116) 3 114) 4 105) 5 101) 6 115))) :: T) H := hP
  have hD : va_D A ((h0, .inr (12, fs_35)) :: (q_36, .inl (D.1 14, 6, .inl (upd (upd (upd (upd (upd (fun _ => 0) 0 110) 1 117) 2 109) 3 98) 4 101))) :: (q_34, .inl (D.1 14, 7, .inl (upd (upd (upd (upd (upd (upd (upd (fun _ => 0) 0 101) 1 110) 2 116) 3 114) 4 105) 5 101) 6 115))) :: T) := hD
  refine lv_dup hx hb dX12_init_537 rfl ?_
  refine lv_iconst (v := 5) hx hb dX12_init_538 (by decide) ?_
  refine lv_bipush (v := 114) hx hb dX12_init_539 (by decide) ?_
  refine va_cast hx hb hK hP hD hS 1 1 rfl rfl (z_in (by decide) (by decide)) dX12_init_541 (fun H locs hP hD hS => ?_)
  have hP : va_P D vwCl ((h0, .inr (12, fs_35)) :: (q_36, .inl (D.1 14, 6, .inl (upd (upd (upd (upd (upd (upd (fun _ => 0) 0 110) 1 117) 2 109) 3 98) 4 101) 5 114))) :: (q_34, .inl (D.1 14, 7, .inl (upd (upd (upd (upd (upd (upd (upd (fun _ => 0) 0 101) 1 110) 2 116) 3 114) 4 105) 5 101) 6 115))) :: T) H := hP
  have hD : va_D A ((h0, .inr (12, fs_35)) :: (q_36, .inl (D.1 14, 6, .inl (upd (upd (upd (upd (upd (upd (fun _ => 0) 0 110) 1 117) 2 109) 3 98) 4 101) 5 114))) :: (q_34, .inl (D.1 14, 7, .inl (upd (upd (upd (upd (upd (upd (upd (fun _ => 0) 0 101) 1 110) 2 116) 3 114) 4 105) 5 101) 6 115))) :: T) := hD
  refine va_putF (D := D) (ci := 12) (v := .ref q_36) (ty := .array .char) (C := RX12) (T := TX12) (N := 116) hx hb ht inX12 tyX12 tyX12_ok nmX12 hown hK hP hD hS 0 rfl rfl 26 (by decide) (ht (.fieldLink RX12 66 "CloneVolumesModel" "numberWord" "[C") fl_X12_66) (fun _ h9 => h9) rfl hin rfl (by decide +kernel) rfl rfl (by rw [hlen]; decide) dX12_init_542 (fun H locs hP hD hS => ?_)
  have hP : va_P D vwCl ((h0, .inr (12, (fs_35.set 26 (.ref q_36)))) :: (q_36, .inl (D.1 14, 6, .inl (upd (upd (upd (upd (upd (upd (fun _ => 0) 0 110) 1 117) 2 109) 3 98) 4 101) 5 114))) :: (q_34, .inl (D.1 14, 7, .inl (upd (upd (upd (upd (upd (upd (upd (fun _ => 0) 0 101) 1 110) 2 116) 3 114) 4 105) 5 101) 6 115))) :: T) H := hP
  have hD : va_D A ((h0, .inr (12, (fs_35.set 26 (.ref q_36)))) :: (q_36, .inl (D.1 14, 6, .inl (upd (upd (upd (upd (upd (upd (fun _ => 0) 0 110) 1 117) 2 109) 3 98) 4 101) 5 114))) :: (q_34, .inl (D.1 14, 7, .inl (upd (upd (upd (upd (upd (upd (upd (fun _ => 0) 0 101) 1 110) 2 116) 3 114) 4 105) 5 101) 6 115))) :: T) := hD
  generalize hfs_37 : fs_35.set 26 (.ref q_36) = fs_37 at hP hD
  have hlen : fs_37.length = 116 := by rw [← hfs_37, List.length_set]; exact hlen
  have hP : va_P D vwCl ((h0, .inr (12, fs_37)) :: (q_36, .inl (D.1 14, 6, .inl (upd (upd (upd (upd (upd (upd (fun _ => 0) 0 110) 1 117) 2 109) 3 98) 4 101) 5 114))) :: (q_34, .inl (D.1 14, 7, .inl (upd (upd (upd (upd (upd (upd (upd (fun _ => 0) 0 101) 1 110) 2 116) 3 114) 4 105) 5 101) 6 115))) :: T) H := hP
  have hD : va_D A ((h0, .inr (12, fs_37)) :: (q_36, .inl (D.1 14, 6, .inl (upd (upd (upd (upd (upd (upd (fun _ => 0) 0 110) 1 117) 2 109) 3 98) 4 101) 5 114))) :: (q_34, .inl (D.1 14, 7, .inl (upd (upd (upd (upd (upd (upd (upd (fun _ => 0) 0 101) 1 110) 2 116) 3 114) 4 105) 5 101) 6 115))) :: T) := hD
  exact kk q_36 q_34 fs_37 _ _ (by rw [← hfs_37, ← hfs_35]) hP hD hS
set_option maxHeartbeats 4000000 in
set_option maxRecDepth 100000 in
theorem cM_8 {p : Program} {l : Launch} {e : Env} {R : Room} {s : State} {m : MethodId} {args : Array Value} {below : List Frame} {meth : Method} {c : Code} {Q : State → Prop} {D : va_G} {A : Nat → Prop} {ls : Array Slot} {h0 : Nat} {T : va_W} (hx : p.tables.exec = Jvm.exec) (hb : c.code = cX12_init) (ht : ∀ w ∈ lw_gd, w.before args s = true) (hown : s.vm.findClass RX12 = some m.cls) (hin : meth.name = "<init>") (hK : va_K D vwCl (TY D) s) (hA : ∀ q : Nat, s.heap.size ≤ q → A q) (hRc : 80 ≤ R.cells) (hRs : 35050 ≤ R.slots) (hl : lv_has ls 1 [(0, .ref h0)]) {fs : List Value} (hlen : fs.length = 116) {H : Heap} {locs : List Loc} (hP : va_P D vwCl ((h0, .inr (12, fs)) :: T) H) (hD : va_D A ((h0, .inr (12, fs)) :: T)) (hS : va_S A s.heap H locs)
    (kk : ∀ (q_40 : Nat) (q_38 : Nat) (fs' : List Value) (H : Heap) (locs : List Loc), fs' = ((fs.set 27 (.ref q_38)).set 28 (.ref q_40)) → va_P D vwCl ((h0, .inr (12, fs')) :: (q_40, .inl (D.1 14, 5, .inl (upd (upd (upd (upd (upd (fun _ => 0) 0 102) 1 114) 2 101) 3 115) 4 104))) :: (q_38, .inl (D.1 14, 5, .inl (upd (upd (upd (upd (upd (fun _ => 0) 0 99) 1 111) 2 117) 3 110) 4 116))) :: T) H → va_D A ((h0, .inr (12, fs')) :: (q_40, .inl (D.1 14, 5, .inl (upd (upd (upd (upd (upd (fun _ => 0) 0 102) 1 114) 2 101) 3 115) 4 104))) :: (q_38, .inl (D.1 14, 5, .inl (upd (upd (upd (upd (upd (fun _ => 0) 0 99) 1 111) 2 117) 3 110) 4 116))) :: T) → va_S A s.heap H locs → W p l e R s m args below meth c H locs 20 1696 Q (F0 m 609 ls [])) : W p l e R s m args below meth c H locs 18 1686 Q (F0 m 545 ls []) := by
  refine lv_aload_n hx hb dX12_init_545 rfl (lv_at hl 0 rfl) ?_
  refine lv_iconst (v := 5) hx hb dX12_init_546 (by decide) ?_
  refine va_newa (atype := .char) (a0 := (5, .inl (fun _ => 0))) (ty := .char) (N' := 5) hx hb (ht _ ac_char) rfl hK hP hD hS hA (fun _ => rfl) (by decide) (by decide) (by decide) (Nat.le_trans (Nat.le_of_ble_eq_true rfl) hRc) (Nat.le_trans (Nat.le_of_ble_eq_true rfl) hRs) dX12_init_547 (fun q_38 cA H hK2 hP hD hS => ?_)
  obtain rfl := z_cls_char hK hK2
  refine W.widen (k := 19) (n := 1691) (Nat.le_of_ble_eq_true rfl) (Nat.le_of_ble_eq_true rfl) ?_
  obtain ⟨hP, hD⟩ := z_rot hP hD
  have hP : va_P D vwCl ((h0, .inr (12, fs)) :: (q_38, .inl (D.1 14, 5, .inl (fun _ => 0))) :: T) H := hP
  have hD : va_D A ((h0, .inr (12, fs)) :: (q_38, .inl (D.1 14, 5, .inl (fun _ => 0))) :: T) := hD
  refine lv_dup hx hb dX12_init_549 rfl ?_
  refine lv_iconst (v := 0) hx hb dX12_init_550 (by decide) ?_
  refine lv_bipush (v := 99) hx hb dX12_init_551 (by decide) ?_
  refine va_cast hx hb hK hP hD hS 1 1 rfl rfl (z_in (by decide) (by decide)) dX12_init_553 (fun H locs hP hD hS => ?_)
  have hP : va_P D vwCl ((h0, .inr (12, fs)) :: (q_38, .inl (D.1 14, 5, .inl (upd (fun _ => 0) 0 99))) :: T) H := hP
  have hD : va_D A ((h0, .inr (12, fs)) :: (q_38, .inl (D.1 14, 5, .inl (upd (fun _ => 0) 0 99))) :: T) := hD
  refine lv_dup hx hb dX12_init_554 rfl ?_
  refine lv_iconst (v := 1) hx hb dX12_init_555 (by decide) ?_
  refine lv_bipush (v := 111) hx hb dX12_init_556 (by decide) ?_
  refine va_cast hx hb hK hP hD hS 1 1 rfl rfl (z_in (by decide) (by decide)) dX12_init_558 (fun H locs hP hD hS => ?_)
  have hP : va_P D vwCl ((h0, .inr (12, fs)) :: (q_38, .inl (D.1 14, 5, .inl (upd (upd (fun _ => 0) 0 99) 1 111))) :: T) H := hP
  have hD : va_D A ((h0, .inr (12, fs)) :: (q_38, .inl (D.1 14, 5, .inl (upd (upd (fun _ => 0) 0 99) 1 111))) :: T) := hD
  refine lv_dup hx hb dX12_init_559 rfl ?_
  refine lv_iconst (v := 2) hx hb dX12_init_560 (by decide) ?_
  refine lv_bipush (v := 117) hx hb dX12_init_561 (by decide) ?_
  refine va_cast hx hb hK hP hD hS 1 1 rfl rfl (z_in (by decide) (by decide)) dX12_init_563 (fun H locs hP hD hS => ?_)
  have hP : va_P D vwCl ((h0, .inr (12, fs)) :: (q_38, .inl (D.1 14, 5, .inl (upd (upd (upd (fun _ => 0) 0 99) 1 111) 2 117))) :: T) H := hP
  have hD : va_D A ((h0, .inr (12, fs)) :: (q_38, .inl (D.1 14, 5, .inl (upd (upd (upd (fun _ => 0) 0 99) 1 111) 2 117))) :: T) := hD
  refine lv_dup hx hb dX12_init_564 rfl ?_
  refine lv_iconst (v := 3) hx hb dX12_init_565 (by decide) ?_
  refine lv_bipush (v := 110) hx hb dX12_init_566 (by decide) ?_
  refine va_cast hx hb hK hP hD hS 1 1 rfl rfl (z_in (by decide) (by decide)) dX12_init_568 (fun H locs hP hD hS => ?_)
  have hP : va_P D vwCl ((h0, .inr (12, fs)) :: (q_38, .inl (D.1 14, 5, .inl (upd (upd (upd (upd (fun _ => 0) 0 99) 1 111) 2 117) 3 110))) :: T) H := hP
  have hD : va_D A ((h0, .inr (12, fs)) :: (q_38, .inl (D.1 14, 5, .inl (upd (upd (upd (upd (fun _ => 0) 0 99) 1 111) 2 117) 3 110))) :: T) := hD
  refine lv_dup hx hb dX12_init_569 rfl ?_
  refine lv_iconst (v := 4) hx hb dX12_init_570 (by decide) ?_
  refine lv_bipush (v := 116) hx hb dX12_init_571 (by decide) ?_
  refine va_cast hx hb hK hP hD hS 1 1 rfl rfl (z_in (by decide) (by decide)) dX12_init_573 (fun H locs hP hD hS => ?_)
  have hP : va_P D vwCl ((h0, .inr (12, fs)) :: (q_38, .inl (D.1 14, 5, .inl (upd (upd (upd (upd (upd (fun _ => 0) 0 99) 1 111) 2 117) 3 110) 4 116))) :: T) H := hP
  have hD : va_D A ((h0, .inr (12, fs)) :: (q_38, .inl (D.1 14, 5, .inl (upd (upd (upd (upd (upd (fun _ => 0) 0 99) 1 111) 2 117) 3 110) 4 116))) :: T) := hD
  refine va_putF (D := D) (ci := 12) (v := .ref q_38) (ty := .array .char) (C := RX12) (T := TX12) (N := 116) hx hb ht inX12 tyX12 tyX12_ok nmX12 hown hK hP hD hS 0 rfl rfl 27 (by decide) (ht (.fieldLink RX12 69 "CloneVolumesModel" "countWord" "[C") fl_X12_69) (fun _ h9 => h9) rfl hin rfl (by decide +kernel) rfl rfl (by rw [hlen]; decide) dX12_init_574 (fun H locs hP hD hS => ?_)
  have hP : va_P D vwCl ((h0, .inr (12, (fs.set 27 (.ref q_38)))) :: (q_38, .inl (D.1 14, 5, .inl (upd (upd (upd (upd (upd (fun _ => 0) 0 99) 1 111) 2 117) 3 110) 4 116))) :: T) H := hP
  have hD : va_D A ((h0, .inr (12, (fs.set 27 (.ref q_38)))) :: (q_38, .inl (D.1 14, 5, .inl (upd (upd (upd (upd (upd (fun _ => 0) 0 99) 1 111) 2 117) 3 110) 4 116))) :: T) := hD
  generalize hfs_39 : fs.set 27 (.ref q_38) = fs_39 at hP hD
  have hlen : fs_39.length = 116 := by rw [← hfs_39, List.length_set]; exact hlen
  have hP : va_P D vwCl ((h0, .inr (12, fs_39)) :: (q_38, .inl (D.1 14, 5, .inl (upd (upd (upd (upd (upd (fun _ => 0) 0 99) 1 111) 2 117) 3 110) 4 116))) :: T) H := hP
  have hD : va_D A ((h0, .inr (12, fs_39)) :: (q_38, .inl (D.1 14, 5, .inl (upd (upd (upd (upd (upd (fun _ => 0) 0 99) 1 111) 2 117) 3 110) 4 116))) :: T) := hD
  refine lv_aload_n hx hb dX12_init_577 rfl (lv_at hl 0 rfl) ?_
  refine lv_iconst (v := 5) hx hb dX12_init_578 (by decide) ?_
  refine va_newa (atype := .char) (a0 := (5, .inl (fun _ => 0))) (ty := .char) (N' := 5) hx hb (ht _ ac_char) rfl hK hP hD hS hA (fun _ => rfl) (by decide) (by decide) (by decide) (Nat.le_trans (Nat.le_of_ble_eq_true rfl) hRc) (Nat.le_trans (Nat.le_of_ble_eq_true rfl) hRs) dX12_init_579 (fun q_40 cA H hK2 hP hD hS => ?_)
  obtain rfl := z_cls_char hK hK2
  refine W.widen (k := 20) (n := 1696) (Nat.le_of_ble_eq_true rfl) (Nat.le_of_ble_eq_true rfl) ?_
  obtain ⟨hP, hD⟩ := z_rot hP hD
  have hP : va_P D vwCl ((h0, .inr (12, fs_39)) :: (q_40, .inl (D.1 14, 5, .inl (fun _ => 0))) :: (q_38, .inl (D.1 14, 5, .inl (upd (upd (upd (upd (upd (fun _ => 0) 0 99) 1 111) 2 117) 3 110) 4 116))) :: T) H := hP
  have hD : va_D A ((h0, .inr (12, fs_39)) :: (q_40, .inl (D.1 14, 5, .inl (fun _ => 0))) :: (q_38, .inl (D.1 14, 5, .inl (upd (upd (upd (upd (upd (fun _ => 0) 0 99) 1 111) 2 117) 3 110) 4 116))) :: T) := hD
  refine lv_dup hx hb dX12_init_581 rfl ?_
  refine lv_iconst (v := 0) hx hb dX12_init_582 (by decide) ?_
  refine lv_bipush (v := 102) hx hb dX12_init_583 (by decide) ?_
  refine va_cast hx hb hK hP hD hS 1 1 rfl rfl (z_in (by decide) (by decide)) dX12_init_585 (fun H locs hP hD hS => ?_)
  have hP : va_P D vwCl ((h0, .inr (12, fs_39)) :: (q_40, .inl (D.1 14, 5, .inl (upd (fun _ => 0) 0 102))) :: (q_38, .inl (D.1 14, 5, .inl (upd (upd (upd (upd (upd (fun _ => 0) 0 99) 1 111) 2 117) 3 110) 4 116))) :: T) H := hP
  have hD : va_D A ((h0, .inr (12, fs_39)) :: (q_40, .inl (D.1 14, 5, .inl (upd (fun _ => 0) 0 102))) :: (q_38, .inl (D.1 14, 5, .inl (upd (upd (upd (upd (upd (fun _ => 0) 0 99) 1 111) 2 117) 3 110) 4 116))) :: T) := hD
  refine lv_dup hx hb dX12_init_586 rfl ?_
  refine lv_iconst (v := 1) hx hb dX12_init_587 (by decide) ?_
  refine lv_bipush (v := 114) hx hb dX12_init_588 (by decide) ?_
  refine va_cast hx hb hK hP hD hS 1 1 rfl rfl (z_in (by decide) (by decide)) dX12_init_590 (fun H locs hP hD hS => ?_)
  have hP : va_P D vwCl ((h0, .inr (12, fs_39)) :: (q_40, .inl (D.1 14, 5, .inl (upd (upd (fun _ => 0) 0 102) 1 114))) :: (q_38, .inl (D.1 14, 5, .inl (upd (upd (upd (upd (upd (fun _ => 0) 0 99) 1 111) 2 117) 3 110) 4 116))) :: T) H := hP
  have hD : va_D A ((h0, .inr (12, fs_39)) :: (q_40, .inl (D.1 14, 5, .inl (upd (upd (fun _ => 0) 0 102) 1 114))) :: (q_38, .inl (D.1 14, 5, .inl (upd (upd (upd (upd (upd (fun _ => 0) 0 99) 1 111) 2 117) 3 110) 4 116))) :: T) := hD
  refine lv_dup hx hb dX12_init_591 rfl ?_
  refine lv_iconst (v := 2) hx hb dX12_init_592 (by decide) ?_
  refine lv_bipush (v := 101) hx hb dX12_init_593 (by decide) ?_
  refine va_cast hx hb hK hP hD hS 1 1 rfl rfl (z_in (by decide) (by decide)) dX12_init_595 (fun H locs hP hD hS => ?_)
  have hP : va_P D vwCl ((h0, .inr (12, fs_39)) :: (q_40, .inl (D.1 14, 5, .inl (upd (upd (upd (fun _ => 0) 0 102) 1 114) 2 101))) :: (q_38, .inl (D.1 14, 5, .inl (upd (upd (upd (upd (upd (fun _ => 0) 0 99) 1 111) 2 117) 3 110) 4 116))) :: T) H := hP
  have hD : va_D A ((h0, .inr (12, fs_39)) :: (q_40, .inl (D.1 14, 5, .inl (upd (upd (upd (fun _ => 0) 0 102) 1 114) 2 101))) :: (q_38, .inl (D.1 14, 5, .inl (upd (upd (upd (upd (upd (fun _ => 0) 0 99) 1 111) 2 117) 3 110) 4 116))) :: T) := hD
  refine lv_dup hx hb dX12_init_596 rfl ?_
  refine lv_iconst (v := 3) hx hb dX12_init_597 (by decide) ?_
  refine lv_bipush (v := 115) hx hb dX12_init_598 (by decide) ?_
  refine va_cast hx hb hK hP hD hS 1 1 rfl rfl (z_in (by decide) (by decide)) dX12_init_600 (fun H locs hP hD hS => ?_)
  have hP : va_P D vwCl ((h0, .inr (12, fs_39)) :: (q_40, .inl (D.1 14, 5, .inl (upd (upd (upd (upd (fun _ => 0) 0 102) 1 114) 2 101) 3 115))) :: (q_38, .inl (D.1 14, 5, .inl (upd (upd (upd (upd (upd (fun _ => 0) 0 99) 1 111) 2 117) 3 110) 4 116))) :: T) H := hP
  have hD : va_D A ((h0, .inr (12, fs_39)) :: (q_40, .inl (D.1 14, 5, .inl (upd (upd (upd (upd (fun _ => 0) 0 102) 1 114) 2 101) 3 115))) :: (q_38, .inl (D.1 14, 5, .inl (upd (upd (upd (upd (upd (fun _ => 0) 0 99) 1 111) 2 117) 3 110) 4 116))) :: T) := hD
  refine lv_dup hx hb dX12_init_601 rfl ?_
  refine lv_iconst (v := 4) hx hb dX12_init_602 (by decide) ?_
  refine lv_bipush (v := 104) hx hb dX12_init_603 (by decide) ?_
  refine va_cast hx hb hK hP hD hS 1 1 rfl rfl (z_in (by decide) (by decide)) dX12_init_605 (fun H locs hP hD hS => ?_)
  have hP : va_P D vwCl ((h0, .inr (12, fs_39)) :: (q_40, .inl (D.1 14, 5, .inl (upd (upd (upd (upd (upd (fun _ => 0) 0 102) 1 114) 2 101) 3 115) 4 104))) :: (q_38, .inl (D.1 14, 5, .inl (upd (upd (upd (upd (upd (fun _ => 0) 0 99) 1 111) 2 117) 3 110) 4 116))) :: T) H := hP
  have hD : va_D A ((h0, .inr (12, fs_39)) :: (q_40, .inl (D.1 14, 5, .inl (upd (upd (upd (upd (upd (fun _ => 0) 0 102) 1 114) 2 101) 3 115) 4 104))) :: (q_38, .inl (D.1 14, 5, .inl (upd (upd (upd (upd (upd (fun _ => 0) 0 99) 1 111) 2 117) 3 110) 4 116))) :: T) := hD
  refine va_putF (D := D) (ci := 12) (v := .ref q_40) (ty := .array .char) (C := RX12) (T := TX12) (N := 116) hx hb ht inX12 tyX12 tyX12_ok nmX12 hown hK hP hD hS 0 rfl rfl 28 (by decide) (ht (.fieldLink RX12 72 "CloneVolumesModel" "freshWord" "[C") fl_X12_72) (fun _ h9 => h9) rfl hin rfl (by decide +kernel) rfl rfl (by rw [hlen]; decide) dX12_init_606 (fun H locs hP hD hS => ?_)
  have hP : va_P D vwCl ((h0, .inr (12, (fs_39.set 28 (.ref q_40)))) :: (q_40, .inl (D.1 14, 5, .inl (upd (upd (upd (upd (upd (fun _ => 0) 0 102) 1 114) 2 101) 3 115) 4 104))) :: (q_38, .inl (D.1 14, 5, .inl (upd (upd (upd (upd (upd (fun _ => 0) 0 99) 1 111) 2 117) 3 110) 4 116))) :: T) H := hP
  have hD : va_D A ((h0, .inr (12, (fs_39.set 28 (.ref q_40)))) :: (q_40, .inl (D.1 14, 5, .inl (upd (upd (upd (upd (upd (fun _ => 0) 0 102) 1 114) 2 101) 3 115) 4 104))) :: (q_38, .inl (D.1 14, 5, .inl (upd (upd (upd (upd (upd (fun _ => 0) 0 99) 1 111) 2 117) 3 110) 4 116))) :: T) := hD
  generalize hfs_41 : fs_39.set 28 (.ref q_40) = fs_41 at hP hD
  have hlen : fs_41.length = 116 := by rw [← hfs_41, List.length_set]; exact hlen
  have hP : va_P D vwCl ((h0, .inr (12, fs_41)) :: (q_40, .inl (D.1 14, 5, .inl (upd (upd (upd (upd (upd (fun _ => 0) 0 102) 1 114) 2 101) 3 115) 4 104))) :: (q_38, .inl (D.1 14, 5, .inl (upd (upd (upd (upd (upd (fun _ => 0) 0 99) 1 111) 2 117) 3 110) 4 116))) :: T) H := hP
  have hD : va_D A ((h0, .inr (12, fs_41)) :: (q_40, .inl (D.1 14, 5, .inl (upd (upd (upd (upd (upd (fun _ => 0) 0 102) 1 114) 2 101) 3 115) 4 104))) :: (q_38, .inl (D.1 14, 5, .inl (upd (upd (upd (upd (upd (fun _ => 0) 0 99) 1 111) 2 117) 3 110) 4 116))) :: T) := hD
  exact kk q_40 q_38 fs_41 _ _ (by rw [← hfs_41, ← hfs_39]) hP hD hS
set_option maxHeartbeats 4000000 in
set_option maxRecDepth 100000 in
theorem cM_9 {p : Program} {l : Launch} {e : Env} {R : Room} {s : State} {m : MethodId} {args : Array Value} {below : List Frame} {meth : Method} {c : Code} {Q : State → Prop} {D : va_G} {A : Nat → Prop} {ls : Array Slot} {h0 : Nat} {T : va_W} (hx : p.tables.exec = Jvm.exec) (hb : c.code = cX12_init) (ht : ∀ w ∈ lw_gd, w.before args s = true) (hown : s.vm.findClass RX12 = some m.cls) (hin : meth.name = "<init>") (hK : va_K D vwCl (TY D) s) (hA : ∀ q : Nat, s.heap.size ≤ q → A q) (hRc : 80 ≤ R.cells) (hRs : 35050 ≤ R.slots) (hl : lv_has ls 1 [(0, .ref h0)]) {fs : List Value} (hlen : fs.length = 116) {H : Heap} {locs : List Loc} (hP : va_P D vwCl ((h0, .inr (12, fs)) :: T) H) (hD : va_D A ((h0, .inr (12, fs)) :: T)) (hS : va_S A s.heap H locs)
    (kk : ∀ (q_46 : Nat) (q_44 : Nat) (q_42 : Nat) (fs' : List Value) (H : Heap) (locs : List Loc), fs' = (((fs.set 29 (.ref q_42)).set 30 (.ref q_44)).set 31 (.ref q_46)) → va_P D vwCl ((h0, .inr (12, fs')) :: (q_46, .inl (D.1 14, 3, .inl (upd (upd (upd (fun _ => 0) 0 107) 1 101) 2 121))) :: (q_44, .inl (D.1 14, 4, .inl (upd (upd (upd (upd (fun _ => 0) 0 114) 1 101) 2 102) 3 115))) :: (q_42, .inl (D.1 14, 5, .inl (upd (upd (upd (upd (upd (fun _ => 0) 0 115) 1 97) 2 118) 3 101) 4 100))) :: T) H → va_D A ((h0, .inr (12, fs')) :: (q_46, .inl (D.1 14, 3, .inl (upd (upd (upd (fun _ => 0) 0 107) 1 101) 2 121))) :: (q_44, .inl (D.1 14, 4, .inl (upd (upd (upd (upd (fun _ => 0) 0 114) 1 101) 2 102) 3 115))) :: (q_42, .inl (D.1 14, 5, .inl (upd (upd (upd (upd (upd (fun _ => 0) 0 115) 1 97) 2 118) 3 101) 4 100))) :: T) → va_S A s.heap H locs → W p l e R s m args below meth c H locs 23 1708 Q (F0 m 690 ls [])) : W p l e R s m args below meth c H locs 20 1696 Q (F0 m 609 ls []) := by
  refine lv_aload_n hx hb dX12_init_609 rfl (lv_at hl 0 rfl) ?_
  refine lv_iconst (v := 5) hx hb dX12_init_610 (by decide) ?_
  refine va_newa (atype := .char) (a0 := (5, .inl (fun _ => 0))) (ty := .char) (N' := 5) hx hb (ht _ ac_char) rfl hK hP hD hS hA (fun _ => rfl) (by decide) (by decide) (by decide) (Nat.le_trans (Nat.le_of_ble_eq_true rfl) hRc) (Nat.le_trans (Nat.le_of_ble_eq_true rfl) hRs) dX12_init_611 (fun q_42 cA H hK2 hP hD hS => ?_)
  obtain rfl := z_cls_char hK hK2
  refine W.widen (k := 21) (n := 1701) (Nat.le_of_ble_eq_true rfl) (Nat.le_of_ble_eq_true rfl) ?_
  obtain ⟨hP, hD⟩ := z_rot hP hD
  have hP : va_P D vwCl ((h0, .inr (12, fs)) :: (q_42, .inl (D.1 14, 5, .inl (fun _ => 0))) :: T) H := hP
  have hD : va_D A ((h0, .inr (12, fs)) :: (q_42, .inl (D.1 14, 5, .inl (fun _ => 0))) :: T) := hD
  refine lv_dup hx hb dX12_init_613 rfl ?_
  refine lv_iconst (v := 0) hx hb dX12_init_614 (by decide) ?_
  refine lv_bipush (v := 115) hx hb dX12_init_615 (by decide) ?_
  refine va_cast hx hb hK hP hD hS 1 1 rfl rfl (z_in (by decide) (by decide)) dX12_init_617 (fun H locs hP hD hS => ?_)
  have hP : va_P D vwCl ((h0, .inr (12, fs)) :: (q_42, .inl (D.1 14, 5, .inl (upd (fun _ => 0) 0 115))) :: T) H := hP
  have hD : va_D A ((h0, .inr (12, fs)) :: (q_42, .inl (D.1 14, 5, .inl (upd (fun _ => 0) 0 115))) :: T) := hD
  refine lv_dup hx hb dX12_init_618 rfl ?_
  refine lv_iconst (v := 1) hx hb dX12_init_619 (by decide) ?_
  refine lv_bipush (v := 97) hx hb dX12_init_620 (by decide) ?_
  refine va_cast hx hb hK hP hD hS 1 1 rfl rfl (z_in (by decide) (by decide)) dX12_init_622 (fun H locs hP hD hS => ?_)
  have hP : va_P D vwCl ((h0, .inr (12, fs)) :: (q_42, .inl (D.1 14, 5, .inl (upd (upd (fun _ => 0) 0 115) 1 97))) :: T) H := hP
  have hD : va_D A ((h0, .inr (12, fs)) :: (q_42, .inl (D.1 14, 5, .inl (upd (upd (fun _ => 0) 0 115) 1 97))) :: T) := hD
  refine lv_dup hx hb dX12_init_623 rfl ?_
  refine lv_iconst (v := 2) hx hb dX12_init_624 (by decide) ?_
  refine lv_bipush (v := 118) hx hb dX12_init_625 (by decide) ?_
  refine va_cast hx hb hK hP hD hS 1 1 rfl rfl (z_in (by decide) (by decide)) dX12_init_627 (fun H locs hP hD hS => ?_)
  have hP : va_P D vwCl ((h0, .inr (12, fs)) :: (q_42, .inl (D.1 14, 5, .inl (upd (upd (upd (fun _ => 0) 0 115) 1 97) 2 118))) :: T) H := hP
  have hD : va_D A ((h0, .inr (12, fs)) :: (q_42, .inl (D.1 14, 5, .inl (upd (upd (upd (fun _ => 0) 0 115) 1 97) 2 118))) :: T) := hD
  refine lv_dup hx hb dX12_init_628 rfl ?_
  refine lv_iconst (v := 3) hx hb dX12_init_629 (by decide) ?_
  refine lv_bipush (v := 101) hx hb dX12_init_630 (by decide) ?_
  refine va_cast hx hb hK hP hD hS 1 1 rfl rfl (z_in (by decide) (by decide)) dX12_init_632 (fun H locs hP hD hS => ?_)
  have hP : va_P D vwCl ((h0, .inr (12, fs)) :: (q_42, .inl (D.1 14, 5, .inl (upd (upd (upd (upd (fun _ => 0) 0 115) 1 97) 2 118) 3 101))) :: T) H := hP
  have hD : va_D A ((h0, .inr (12, fs)) :: (q_42, .inl (D.1 14, 5, .inl (upd (upd (upd (upd (fun _ => 0) 0 115) 1 97) 2 118) 3 101))) :: T) := hD
  refine lv_dup hx hb dX12_init_633 rfl ?_
  refine lv_iconst (v := 4) hx hb dX12_init_634 (by decide) ?_
  refine lv_bipush (v := 100) hx hb dX12_init_635 (by decide) ?_
  refine va_cast hx hb hK hP hD hS 1 1 rfl rfl (z_in (by decide) (by decide)) dX12_init_637 (fun H locs hP hD hS => ?_)
  have hP : va_P D vwCl ((h0, .inr (12, fs)) :: (q_42, .inl (D.1 14, 5, .inl (upd (upd (upd (upd (upd (fun _ => 0) 0 115) 1 97) 2 118) 3 101) 4 100))) :: T) H := hP
  have hD : va_D A ((h0, .inr (12, fs)) :: (q_42, .inl (D.1 14, 5, .inl (upd (upd (upd (upd (upd (fun _ => 0) 0 115) 1 97) 2 118) 3 101) 4 100))) :: T) := hD
  refine va_putF (D := D) (ci := 12) (v := .ref q_42) (ty := .array .char) (C := RX12) (T := TX12) (N := 116) hx hb ht inX12 tyX12 tyX12_ok nmX12 hown hK hP hD hS 0 rfl rfl 29 (by decide) (ht (.fieldLink RX12 75 "CloneVolumesModel" "savedWord" "[C") fl_X12_75) (fun _ h9 => h9) rfl hin rfl (by decide +kernel) rfl rfl (by rw [hlen]; decide) dX12_init_638 (fun H locs hP hD hS => ?_)
  have hP : va_P D vwCl ((h0, .inr (12, (fs.set 29 (.ref q_42)))) :: (q_42, .inl (D.1 14, 5, .inl (upd (upd (upd (upd (upd (fun _ => 0) 0 115) 1 97) 2 118) 3 101) 4 100))) :: T) H := hP
  have hD : va_D A ((h0, .inr (12, (fs.set 29 (.ref q_42)))) :: (q_42, .inl (D.1 14, 5, .inl (upd (upd (upd (upd (upd (fun _ => 0) 0 115) 1 97) 2 118) 3 101) 4 100))) :: T) := hD
  generalize hfs_43 : fs.set 29 (.ref q_42) = fs_43 at hP hD
  have hlen : fs_43.length = 116 := by rw [← hfs_43, List.length_set]; exact hlen
  have hP : va_P D vwCl ((h0, .inr (12, fs_43)) :: (q_42, .inl (D.1 14, 5, .inl (upd (upd (upd (upd (upd (fun _ => 0) 0 115) 1 97) 2 118) 3 101) 4 100))) :: T) H := hP
  have hD : va_D A ((h0, .inr (12, fs_43)) :: (q_42, .inl (D.1 14, 5, .inl (upd (upd (upd (upd (upd (fun _ => 0) 0 115) 1 97) 2 118) 3 101) 4 100))) :: T) := hD
  refine lv_aload_n hx hb dX12_init_641 rfl (lv_at hl 0 rfl) ?_
  refine lv_iconst (v := 4) hx hb dX12_init_642 (by decide) ?_
  refine va_newa (atype := .char) (a0 := (4, .inl (fun _ => 0))) (ty := .char) (N' := 4) hx hb (ht _ ac_char) rfl hK hP hD hS hA (fun _ => rfl) (by decide) (by decide) (by decide) (Nat.le_trans (Nat.le_of_ble_eq_true rfl) hRc) (Nat.le_trans (Nat.le_of_ble_eq_true rfl) hRs) dX12_init_643 (fun q_44 cA H hK2 hP hD hS => ?_)
  obtain rfl := z_cls_char hK hK2
  refine W.widen (k := 22) (n := 1705) (Nat.le_of_ble_eq_true rfl) (Nat.le_of_ble_eq_true rfl) ?_
  obtain ⟨hP, hD⟩ := z_rot hP hD
  have hP : va_P D vwCl ((h0, .inr (12, fs_43)) :: (q_44, .inl (D.1 14, 4, .inl (fun _ => 0))) :: (q_42, .inl (D.1 14, 5, .inl (upd (upd (upd (upd (upd (fun _ => 0) 0 115) 1 97) 2 118) 3 101) 4 100))) :: T) H := hP
  have hD : va_D A ((h0, .inr (12, fs_43)) :: (q_44, .inl (D.1 14, 4, .inl (fun _ => 0))) :: (q_42, .inl (D.1 14, 5, .inl (upd (upd (upd (upd (upd (fun _ => 0) 0 115) 1 97) 2 118) 3 101) 4 100))) :: T) := hD
  refine lv_dup hx hb dX12_init_645 rfl ?_
  refine lv_iconst (v := 0) hx hb dX12_init_646 (by decide) ?_
  refine lv_bipush (v := 114) hx hb dX12_init_647 (by decide) ?_
  refine va_cast hx hb hK hP hD hS 1 1 rfl rfl (z_in (by decide) (by decide)) dX12_init_649 (fun H locs hP hD hS => ?_)
  have hP : va_P D vwCl ((h0, .inr (12, fs_43)) :: (q_44, .inl (D.1 14, 4, .inl (upd (fun _ => 0) 0 114))) :: (q_42, .inl (D.1 14, 5, .inl (upd (upd (upd (upd (upd (fun _ => 0) 0 115) 1 97) 2 118) 3 101) 4 100))) :: T) H := hP
  have hD : va_D A ((h0, .inr (12, fs_43)) :: (q_44, .inl (D.1 14, 4, .inl (upd (fun _ => 0) 0 114))) :: (q_42, .inl (D.1 14, 5, .inl (upd (upd (upd (upd (upd (fun _ => 0) 0 115) 1 97) 2 118) 3 101) 4 100))) :: T) := hD
  refine lv_dup hx hb dX12_init_650 rfl ?_
  refine lv_iconst (v := 1) hx hb dX12_init_651 (by decide) ?_
  refine lv_bipush (v := 101) hx hb dX12_init_652 (by decide) ?_
  refine va_cast hx hb hK hP hD hS 1 1 rfl rfl (z_in (by decide) (by decide)) dX12_init_654 (fun H locs hP hD hS => ?_)
  have hP : va_P D vwCl ((h0, .inr (12, fs_43)) :: (q_44, .inl (D.1 14, 4, .inl (upd (upd (fun _ => 0) 0 114) 1 101))) :: (q_42, .inl (D.1 14, 5, .inl (upd (upd (upd (upd (upd (fun _ => 0) 0 115) 1 97) 2 118) 3 101) 4 100))) :: T) H := hP
  have hD : va_D A ((h0, .inr (12, fs_43)) :: (q_44, .inl (D.1 14, 4, .inl (upd (upd (fun _ => 0) 0 114) 1 101))) :: (q_42, .inl (D.1 14, 5, .inl (upd (upd (upd (upd (upd (fun _ => 0) 0 115) 1 97) 2 118) 3 101) 4 100))) :: T) := hD
  refine lv_dup hx hb dX12_init_655 rfl ?_
  refine lv_iconst (v := 2) hx hb dX12_init_656 (by decide) ?_
  refine lv_bipush (v := 102) hx hb dX12_init_657 (by decide) ?_
  refine va_cast hx hb hK hP hD hS 1 1 rfl rfl (z_in (by decide) (by decide)) dX12_init_659 (fun H locs hP hD hS => ?_)
  have hP : va_P D vwCl ((h0, .inr (12, fs_43)) :: (q_44, .inl (D.1 14, 4, .inl (upd (upd (upd (fun _ => 0) 0 114) 1 101) 2 102))) :: (q_42, .inl (D.1 14, 5, .inl (upd (upd (upd (upd (upd (fun _ => 0) 0 115) 1 97) 2 118) 3 101) 4 100))) :: T) H := hP
  have hD : va_D A ((h0, .inr (12, fs_43)) :: (q_44, .inl (D.1 14, 4, .inl (upd (upd (upd (fun _ => 0) 0 114) 1 101) 2 102))) :: (q_42, .inl (D.1 14, 5, .inl (upd (upd (upd (upd (upd (fun _ => 0) 0 115) 1 97) 2 118) 3 101) 4 100))) :: T) := hD
  refine lv_dup hx hb dX12_init_660 rfl ?_
  refine lv_iconst (v := 3) hx hb dX12_init_661 (by decide) ?_
  refine lv_bipush (v := 115) hx hb dX12_init_662 (by decide) ?_
  refine va_cast hx hb hK hP hD hS 1 1 rfl rfl (z_in (by decide) (by decide)) dX12_init_664 (fun H locs hP hD hS => ?_)
  have hP : va_P D vwCl ((h0, .inr (12, fs_43)) :: (q_44, .inl (D.1 14, 4, .inl (upd (upd (upd (upd (fun _ => 0) 0 114) 1 101) 2 102) 3 115))) :: (q_42, .inl (D.1 14, 5, .inl (upd (upd (upd (upd (upd (fun _ => 0) 0 115) 1 97) 2 118) 3 101) 4 100))) :: T) H := hP
  have hD : va_D A ((h0, .inr (12, fs_43)) :: (q_44, .inl (D.1 14, 4, .inl (upd (upd (upd (upd (fun _ => 0) 0 114) 1 101) 2 102) 3 115))) :: (q_42, .inl (D.1 14, 5, .inl (upd (upd (upd (upd (upd (fun _ => 0) 0 115) 1 97) 2 118) 3 101) 4 100))) :: T) := hD
  refine va_putF (D := D) (ci := 12) (v := .ref q_44) (ty := .array .char) (C := RX12) (T := TX12) (N := 116) hx hb ht inX12 tyX12 tyX12_ok nmX12 hown hK hP hD hS 0 rfl rfl 30 (by decide) (ht (.fieldLink RX12 78 "CloneVolumesModel" "refsWord" "[C") fl_X12_78) (fun _ h9 => h9) rfl hin rfl (by decide +kernel) rfl rfl (by rw [hlen]; decide) dX12_init_665 (fun H locs hP hD hS => ?_)
  have hP : va_P D vwCl ((h0, .inr (12, (fs_43.set 30 (.ref q_44)))) :: (q_44, .inl (D.1 14, 4, .inl (upd (upd (upd (upd (fun _ => 0) 0 114) 1 101) 2 102) 3 115))) :: (q_42, .inl (D.1 14, 5, .inl (upd (upd (upd (upd (upd (fun _ => 0) 0 115) 1 97) 2 118) 3 101) 4 100))) :: T) H := hP
  have hD : va_D A ((h0, .inr (12, (fs_43.set 30 (.ref q_44)))) :: (q_44, .inl (D.1 14, 4, .inl (upd (upd (upd (upd (fun _ => 0) 0 114) 1 101) 2 102) 3 115))) :: (q_42, .inl (D.1 14, 5, .inl (upd (upd (upd (upd (upd (fun _ => 0) 0 115) 1 97) 2 118) 3 101) 4 100))) :: T) := hD
  generalize hfs_45 : fs_43.set 30 (.ref q_44) = fs_45 at hP hD
  have hlen : fs_45.length = 116 := by rw [← hfs_45, List.length_set]; exact hlen
  have hP : va_P D vwCl ((h0, .inr (12, fs_45)) :: (q_44, .inl (D.1 14, 4, .inl (upd (upd (upd (upd (fun _ => 0) 0 114) 1 101) 2 102) 3 115))) :: (q_42, .inl (D.1 14, 5, .inl (upd (upd (upd (upd (upd (fun _ => 0) 0 115) 1 97) 2 118) 3 101) 4 100))) :: T) H := hP
  have hD : va_D A ((h0, .inr (12, fs_45)) :: (q_44, .inl (D.1 14, 4, .inl (upd (upd (upd (upd (fun _ => 0) 0 114) 1 101) 2 102) 3 115))) :: (q_42, .inl (D.1 14, 5, .inl (upd (upd (upd (upd (upd (fun _ => 0) 0 115) 1 97) 2 118) 3 101) 4 100))) :: T) := hD
  refine lv_aload_n hx hb dX12_init_668 rfl (lv_at hl 0 rfl) ?_
  refine lv_iconst (v := 3) hx hb dX12_init_669 (by decide) ?_
  refine va_newa (atype := .char) (a0 := (3, .inl (fun _ => 0))) (ty := .char) (N' := 3) hx hb (ht _ ac_char) rfl hK hP hD hS hA (fun _ => rfl) (by decide) (by decide) (by decide) (Nat.le_trans (Nat.le_of_ble_eq_true rfl) hRc) (Nat.le_trans (Nat.le_of_ble_eq_true rfl) hRs) dX12_init_670 (fun q_46 cA H hK2 hP hD hS => ?_)
  obtain rfl := z_cls_char hK hK2
  refine W.widen (k := 23) (n := 1708) (Nat.le_of_ble_eq_true rfl) (Nat.le_of_ble_eq_true rfl) ?_
  obtain ⟨hP, hD⟩ := z_rot hP hD
  have hP : va_P D vwCl ((h0, .inr (12, fs_45)) :: (q_46, .inl (D.1 14, 3, .inl (fun _ => 0))) :: (q_44, .inl (D.1 14, 4, .inl (upd (upd (upd (upd (fun _ => 0) 0 114) 1 101) 2 102) 3 115))) :: (q_42, .inl (D.1 14, 5, .inl (upd (upd (upd (upd (upd (fun _ => 0) 0 115) 1 97) 2 118) 3 101) 4 100))) :: T) H := hP
  have hD : va_D A ((h0, .inr (12, fs_45)) :: (q_46, .inl (D.1 14, 3, .inl (fun _ => 0))) :: (q_44, .inl (D.1 14, 4, .inl (upd (upd (upd (upd (fun _ => 0) 0 114) 1 101) 2 102) 3 115))) :: (q_42, .inl (D.1 14, 5, .inl (upd (upd (upd (upd (upd (fun _ => 0) 0 115) 1 97) 2 118) 3 101) 4 100))) :: T) := hD
  refine lv_dup hx hb dX12_init_672 rfl ?_
  refine lv_iconst (v := 0) hx hb dX12_init_673 (by decide) ?_
  refine lv_bipush (v := 107) hx hb dX12_init_674 (by decide) ?_
  refine va_cast hx hb hK hP hD hS 1 1 rfl rfl (z_in (by decide) (by decide)) dX12_init_676 (fun H locs hP hD hS => ?_)
  have hP : va_P D vwCl ((h0, .inr (12, fs_45)) :: (q_46, .inl (D.1 14, 3, .inl (upd (fun _ => 0) 0 107))) :: (q_44, .inl (D.1 14, 4, .inl (upd (upd (upd (upd (fun _ => 0) 0 114) 1 101) 2 102) 3 115))) :: (q_42, .inl (D.1 14, 5, .inl (upd (upd (upd (upd (upd (fun _ => 0) 0 115) 1 97) 2 118) 3 101) 4 100))) :: T) H := hP
  have hD : va_D A ((h0, .inr (12, fs_45)) :: (q_46, .inl (D.1 14, 3, .inl (upd (fun _ => 0) 0 107))) :: (q_44, .inl (D.1 14, 4, .inl (upd (upd (upd (upd (fun _ => 0) 0 114) 1 101) 2 102) 3 115))) :: (q_42, .inl (D.1 14, 5, .inl (upd (upd (upd (upd (upd (fun _ => 0) 0 115) 1 97) 2 118) 3 101) 4 100))) :: T) := hD
  refine lv_dup hx hb dX12_init_677 rfl ?_
  refine lv_iconst (v := 1) hx hb dX12_init_678 (by decide) ?_
  refine lv_bipush (v := 101) hx hb dX12_init_679 (by decide) ?_
  refine va_cast hx hb hK hP hD hS 1 1 rfl rfl (z_in (by decide) (by decide)) dX12_init_681 (fun H locs hP hD hS => ?_)
  have hP : va_P D vwCl ((h0, .inr (12, fs_45)) :: (q_46, .inl (D.1 14, 3, .inl (upd (upd (fun _ => 0) 0 107) 1 101))) :: (q_44, .inl (D.1 14, 4, .inl (upd (upd (upd (upd (fun _ => 0) 0 114) 1 101) 2 102) 3 115))) :: (q_42, .inl (D.1 14, 5, .inl (upd (upd (upd (upd (upd (fun _ => 0) 0 115) 1 97) 2 118) 3 101) 4 100))) :: T) H := hP
  have hD : va_D A ((h0, .inr (12, fs_45)) :: (q_46, .inl (D.1 14, 3, .inl (upd (upd (fun _ => 0) 0 107) 1 101))) :: (q_44, .inl (D.1 14, 4, .inl (upd (upd (upd (upd (fun _ => 0) 0 114) 1 101) 2 102) 3 115))) :: (q_42, .inl (D.1 14, 5, .inl (upd (upd (upd (upd (upd (fun _ => 0) 0 115) 1 97) 2 118) 3 101) 4 100))) :: T) := hD
  refine lv_dup hx hb dX12_init_682 rfl ?_
  refine lv_iconst (v := 2) hx hb dX12_init_683 (by decide) ?_
  refine lv_bipush (v := 121) hx hb dX12_init_684 (by decide) ?_
  refine va_cast hx hb hK hP hD hS 1 1 rfl rfl (z_in (by decide) (by decide)) dX12_init_686 (fun H locs hP hD hS => ?_)
  have hP : va_P D vwCl ((h0, .inr (12, fs_45)) :: (q_46, .inl (D.1 14, 3, .inl (upd (upd (upd (fun _ => 0) 0 107) 1 101) 2 121))) :: (q_44, .inl (D.1 14, 4, .inl (upd (upd (upd (upd (fun _ => 0) 0 114) 1 101) 2 102) 3 115))) :: (q_42, .inl (D.1 14, 5, .inl (upd (upd (upd (upd (upd (fun _ => 0) 0 115) 1 97) 2 118) 3 101) 4 100))) :: T) H := hP
  have hD : va_D A ((h0, .inr (12, fs_45)) :: (q_46, .inl (D.1 14, 3, .inl (upd (upd (upd (fun _ => 0) 0 107) 1 101) 2 121))) :: (q_44, .inl (D.1 14, 4, .inl (upd (upd (upd (upd (fun _ => 0) 0 114) 1 101) 2 102) 3 115))) :: (q_42, .inl (D.1 14, 5, .inl (upd (upd (upd (upd (upd (fun _ => 0) 0 115) 1 97) 2 118) 3 101) 4 100))) :: T) := hD
  refine va_putF (D := D) (ci := 12) (v := .ref q_46) (ty := .array .char) (C := RX12) (T := TX12) (N := 116) hx hb ht inX12 tyX12 tyX12_ok nmX12 hown hK hP hD hS 0 rfl rfl 31 (by decide) (ht (.fieldLink RX12 81 "CloneVolumesModel" "keyWord" "[C") fl_X12_81) (fun _ h9 => h9) rfl hin rfl (by decide +kernel) rfl rfl (by rw [hlen]; decide) dX12_init_687 (fun H locs hP hD hS => ?_)
  have hP : va_P D vwCl ((h0, .inr (12, (fs_45.set 31 (.ref q_46)))) :: (q_46, .inl (D.1 14, 3, .inl (upd (upd (upd (fun _ => 0) 0 107) 1 101) 2 121))) :: (q_44, .inl (D.1 14, 4, .inl (upd (upd (upd (upd (fun _ => 0) 0 114) 1 101) 2 102) 3 115))) :: (q_42, .inl (D.1 14, 5, .inl (upd (upd (upd (upd (upd (fun _ => 0) 0 115) 1 97) 2 118) 3 101) 4 100))) :: T) H := hP
  have hD : va_D A ((h0, .inr (12, (fs_45.set 31 (.ref q_46)))) :: (q_46, .inl (D.1 14, 3, .inl (upd (upd (upd (fun _ => 0) 0 107) 1 101) 2 121))) :: (q_44, .inl (D.1 14, 4, .inl (upd (upd (upd (upd (fun _ => 0) 0 114) 1 101) 2 102) 3 115))) :: (q_42, .inl (D.1 14, 5, .inl (upd (upd (upd (upd (upd (fun _ => 0) 0 115) 1 97) 2 118) 3 101) 4 100))) :: T) := hD
  generalize hfs_47 : fs_45.set 31 (.ref q_46) = fs_47 at hP hD
  have hlen : fs_47.length = 116 := by rw [← hfs_47, List.length_set]; exact hlen
  have hP : va_P D vwCl ((h0, .inr (12, fs_47)) :: (q_46, .inl (D.1 14, 3, .inl (upd (upd (upd (fun _ => 0) 0 107) 1 101) 2 121))) :: (q_44, .inl (D.1 14, 4, .inl (upd (upd (upd (upd (fun _ => 0) 0 114) 1 101) 2 102) 3 115))) :: (q_42, .inl (D.1 14, 5, .inl (upd (upd (upd (upd (upd (fun _ => 0) 0 115) 1 97) 2 118) 3 101) 4 100))) :: T) H := hP
  have hD : va_D A ((h0, .inr (12, fs_47)) :: (q_46, .inl (D.1 14, 3, .inl (upd (upd (upd (fun _ => 0) 0 107) 1 101) 2 121))) :: (q_44, .inl (D.1 14, 4, .inl (upd (upd (upd (upd (fun _ => 0) 0 114) 1 101) 2 102) 3 115))) :: (q_42, .inl (D.1 14, 5, .inl (upd (upd (upd (upd (upd (fun _ => 0) 0 115) 1 97) 2 118) 3 101) 4 100))) :: T) := hD
  exact kk q_46 q_44 q_42 fs_47 _ _ (by rw [← hfs_47, ← hfs_45, ← hfs_43]) hP hD hS
set_option maxHeartbeats 4000000 in
set_option maxRecDepth 100000 in
theorem cM_10 {p : Program} {l : Launch} {e : Env} {R : Room} {s : State} {m : MethodId} {args : Array Value} {below : List Frame} {meth : Method} {c : Code} {Q : State → Prop} {D : va_G} {A : Nat → Prop} {ls : Array Slot} {h0 : Nat} {T : va_W} (hx : p.tables.exec = Jvm.exec) (hb : c.code = cX12_init) (ht : ∀ w ∈ lw_gd, w.before args s = true) (hown : s.vm.findClass RX12 = some m.cls) (hin : meth.name = "<init>") (hK : va_K D vwCl (TY D) s) (hA : ∀ q : Nat, s.heap.size ≤ q → A q) (hRc : 80 ≤ R.cells) (hRs : 35050 ≤ R.slots) (hl : lv_has ls 1 [(0, .ref h0)]) {fs : List Value} (hlen : fs.length = 116) {H : Heap} {locs : List Loc} (hP : va_P D vwCl ((h0, .inr (12, fs)) :: T) H) (hD : va_D A ((h0, .inr (12, fs)) :: T)) (hS : va_S A s.heap H locs)
    (kk : ∀ (q_54 : Nat) (q_52 : Nat) (q_50 : Nat) (q_48 : Nat) (fs' : List Value) (H : Heap) (locs : List Loc), fs' = ((((fs.set 32 (.ref q_48)).set 33 (.ref q_50)).set 34 (.ref q_52)).set 35 (.ref q_54)) → va_P D vwCl ((h0, .inr (12, fs')) :: (q_54, .inl (D.1 14, 3, .inl (upd (upd (upd (fun _ => 0) 0 97) 1 108) 2 108))) :: (q_52, .inl (D.1 14, 3, .inl (upd (upd (upd (fun _ => 0) 0 110) 1 111) 2 116))) :: (q_50, .inl (D.1 14, 3, .inl (upd (upd (upd (fun _ => 0) 0 97) 1 110) 2 100))) :: (q_48, .inl (D.1 14, 2, .inl (upd (upd (fun _ => 0) 0 111) 1 114))) :: T) H → va_D A ((h0, .inr (12, fs')) :: (q_54, .inl (D.1 14, 3, .inl (upd (upd (upd (fun _ => 0) 0 97) 1 108) 2 108))) :: (q_52, .inl (D.1 14, 3, .inl (upd (upd (upd (fun _ => 0) 0 110) 1 111) 2 116))) :: (q_50, .inl (D.1 14, 3, .inl (upd (upd (upd (fun _ => 0) 0 97) 1 110) 2 100))) :: (q_48, .inl (D.1 14, 2, .inl (upd (upd (fun _ => 0) 0 111) 1 114))) :: T) → va_S A s.heap H locs → W p l e R s m args below meth c H locs 27 1719 Q (F0 m 773 ls [])) : W p l e R s m args below meth c H locs 23 1708 Q (F0 m 690 ls []) := by
  refine lv_aload_n hx hb dX12_init_690 rfl (lv_at hl 0 rfl) ?_
  refine lv_iconst (v := 2) hx hb dX12_init_691 (by decide) ?_
  refine va_newa (atype := .char) (a0 := (2, .inl (fun _ => 0))) (ty := .char) (N' := 2) hx hb (ht _ ac_char) rfl hK hP hD hS hA (fun _ => rfl) (by decide) (by decide) (by decide) (Nat.le_trans (Nat.le_of_ble_eq_true rfl) hRc) (Nat.le_trans (Nat.le_of_ble_eq_true rfl) hRs) dX12_init_692 (fun q_48 cA H hK2 hP hD hS => ?_)
  obtain rfl := z_cls_char hK hK2
  refine W.widen (k := 24) (n := 1710) (Nat.le_of_ble_eq_true rfl) (Nat.le_of_ble_eq_true rfl) ?_
  obtain ⟨hP, hD⟩ := z_rot hP hD
  have hP : va_P D vwCl ((h0, .inr (12, fs)) :: (q_48, .inl (D.1 14, 2, .inl (fun _ => 0))) :: T) H := hP
  have hD : va_D A ((h0, .inr (12, fs)) :: (q_48, .inl (D.1 14, 2, .inl (fun _ => 0))) :: T) := hD
  refine lv_dup hx hb dX12_init_694 rfl ?_
  refine lv_iconst (v := 0) hx hb dX12_init_695 (by decide) ?_
  refine lv_bipush (v := 111) hx hb dX12_init_696 (by decide) ?_
  refine va_cast hx hb hK hP hD hS 1 1 rfl rfl (z_in (by decide) (by decide)) dX12_init_698 (fun H locs hP hD hS => ?_)
  have hP : va_P D vwCl ((h0, .inr (12, fs)) :: (q_48, .inl (D.1 14, 2, .inl (upd (fun _ => 0) 0 111))) :: T) H := hP
  have hD : va_D A ((h0, .inr (12, fs)) :: (q_48, .inl (D.1 14, 2, .inl (upd (fun _ => 0) 0 111))) :: T) := hD
  refine lv_dup hx hb dX12_init_699 rfl ?_
  refine lv_iconst (v := 1) hx hb dX12_init_700 (by decide) ?_
  refine lv_bipush (v := 114) hx hb dX12_init_701 (by decide) ?_
  refine va_cast hx hb hK hP hD hS 1 1 rfl rfl (z_in (by decide) (by decide)) dX12_init_703 (fun H locs hP hD hS => ?_)
  have hP : va_P D vwCl ((h0, .inr (12, fs)) :: (q_48, .inl (D.1 14, 2, .inl (upd (upd (fun _ => 0) 0 111) 1 114))) :: T) H := hP
  have hD : va_D A ((h0, .inr (12, fs)) :: (q_48, .inl (D.1 14, 2, .inl (upd (upd (fun _ => 0) 0 111) 1 114))) :: T) := hD
  refine va_putF (D := D) (ci := 12) (v := .ref q_48) (ty := .array .char) (C := RX12) (T := TX12) (N := 116) hx hb ht inX12 tyX12 tyX12_ok nmX12 hown hK hP hD hS 0 rfl rfl 32 (by decide) (ht (.fieldLink RX12 84 "CloneVolumesModel" "orWord" "[C") fl_X12_84) (fun _ h9 => h9) rfl hin rfl (by decide +kernel) rfl rfl (by rw [hlen]; decide) dX12_init_704 (fun H locs hP hD hS => ?_)
  have hP : va_P D vwCl ((h0, .inr (12, (fs.set 32 (.ref q_48)))) :: (q_48, .inl (D.1 14, 2, .inl (upd (upd (fun _ => 0) 0 111) 1 114))) :: T) H := hP
  have hD : va_D A ((h0, .inr (12, (fs.set 32 (.ref q_48)))) :: (q_48, .inl (D.1 14, 2, .inl (upd (upd (fun _ => 0) 0 111) 1 114))) :: T) := hD
  generalize hfs_49 : fs.set 32 (.ref q_48) = fs_49 at hP hD
  have hlen : fs_49.length = 116 := by rw [← hfs_49, List.length_set]; exact hlen
  have hP : va_P D vwCl ((h0, .inr (12, fs_49)) :: (q_48, .inl (D.1 14, 2, .inl (upd (upd (fun _ => 0) 0 111) 1 114))) :: T) H := hP
  have hD : va_D A ((h0, .inr (12, fs_49)) :: (q_48, .inl (D.1 14, 2, .inl (upd (upd (fun _ => 0) 0 111) 1 114))) :: T) := hD
  refine lv_aload_n hx hb dX12_init_707 rfl (lv_at hl 0 rfl) ?_
  refine lv_iconst (v := 3) hx hb dX12_init_708 (by decide) ?_
  refine va_newa (atype := .char) (a0 := (3, .inl (fun _ => 0))) (ty := .char) (N' := 3) hx hb (ht _ ac_char) rfl hK hP hD hS hA (fun _ => rfl) (by decide) (by decide) (by decide) (Nat.le_trans (Nat.le_of_ble_eq_true rfl) hRc) (Nat.le_trans (Nat.le_of_ble_eq_true rfl) hRs) dX12_init_709 (fun q_50 cA H hK2 hP hD hS => ?_)
  obtain rfl := z_cls_char hK hK2
  refine W.widen (k := 25) (n := 1713) (Nat.le_of_ble_eq_true rfl) (Nat.le_of_ble_eq_true rfl) ?_
  obtain ⟨hP, hD⟩ := z_rot hP hD
  have hP : va_P D vwCl ((h0, .inr (12, fs_49)) :: (q_50, .inl (D.1 14, 3, .inl (fun _ => 0))) :: (q_48, .inl (D.1 14, 2, .inl (upd (upd (fun _ => 0) 0 111) 1 114))) :: T) H := hP
  have hD : va_D A ((h0, .inr (12, fs_49)) :: (q_50, .inl (D.1 14, 3, .inl (fun _ => 0))) :: (q_48, .inl (D.1 14, 2, .inl (upd (upd (fun _ => 0) 0 111) 1 114))) :: T) := hD
  refine lv_dup hx hb dX12_init_711 rfl ?_
  refine lv_iconst (v := 0) hx hb dX12_init_712 (by decide) ?_
  refine lv_bipush (v := 97) hx hb dX12_init_713 (by decide) ?_
  refine va_cast hx hb hK hP hD hS 1 1 rfl rfl (z_in (by decide) (by decide)) dX12_init_715 (fun H locs hP hD hS => ?_)
  have hP : va_P D vwCl ((h0, .inr (12, fs_49)) :: (q_50, .inl (D.1 14, 3, .inl (upd (fun _ => 0) 0 97))) :: (q_48, .inl (D.1 14, 2, .inl (upd (upd (fun _ => 0) 0 111) 1 114))) :: T) H := hP
  have hD : va_D A ((h0, .inr (12, fs_49)) :: (q_50, .inl (D.1 14, 3, .inl (upd (fun _ => 0) 0 97))) :: (q_48, .inl (D.1 14, 2, .inl (upd (upd (fun _ => 0) 0 111) 1 114))) :: T) := hD
  refine lv_dup hx hb dX12_init_716 rfl ?_
  refine lv_iconst (v := 1) hx hb dX12_init_717 (by decide) ?_
  refine lv_bipush (v := 110) hx hb dX12_init_718 (by decide) ?_
  refine va_cast hx hb hK hP hD hS 1 1 rfl rfl (z_in (by decide) (by decide)) dX12_init_720 (fun H locs hP hD hS => ?_)
  have hP : va_P D vwCl ((h0, .inr (12, fs_49)) :: (q_50, .inl (D.1 14, 3, .inl (upd (upd (fun _ => 0) 0 97) 1 110))) :: (q_48, .inl (D.1 14, 2, .inl (upd (upd (fun _ => 0) 0 111) 1 114))) :: T) H := hP
  have hD : va_D A ((h0, .inr (12, fs_49)) :: (q_50, .inl (D.1 14, 3, .inl (upd (upd (fun _ => 0) 0 97) 1 110))) :: (q_48, .inl (D.1 14, 2, .inl (upd (upd (fun _ => 0) 0 111) 1 114))) :: T) := hD
  refine lv_dup hx hb dX12_init_721 rfl ?_
  refine lv_iconst (v := 2) hx hb dX12_init_722 (by decide) ?_
  refine lv_bipush (v := 100) hx hb dX12_init_723 (by decide) ?_
  refine va_cast hx hb hK hP hD hS 1 1 rfl rfl (z_in (by decide) (by decide)) dX12_init_725 (fun H locs hP hD hS => ?_)
  have hP : va_P D vwCl ((h0, .inr (12, fs_49)) :: (q_50, .inl (D.1 14, 3, .inl (upd (upd (upd (fun _ => 0) 0 97) 1 110) 2 100))) :: (q_48, .inl (D.1 14, 2, .inl (upd (upd (fun _ => 0) 0 111) 1 114))) :: T) H := hP
  have hD : va_D A ((h0, .inr (12, fs_49)) :: (q_50, .inl (D.1 14, 3, .inl (upd (upd (upd (fun _ => 0) 0 97) 1 110) 2 100))) :: (q_48, .inl (D.1 14, 2, .inl (upd (upd (fun _ => 0) 0 111) 1 114))) :: T) := hD
  refine va_putF (D := D) (ci := 12) (v := .ref q_50) (ty := .array .char) (C := RX12) (T := TX12) (N := 116) hx hb ht inX12 tyX12 tyX12_ok nmX12 hown hK hP hD hS 0 rfl rfl 33 (by decide) (ht (.fieldLink RX12 87 "CloneVolumesModel" "andWord" "[C") fl_X12_87) (fun _ h9 => h9) rfl hin rfl (by decide +kernel) rfl rfl (by rw [hlen]; decide) dX12_init_726 (fun H locs hP hD hS => ?_)
  have hP : va_P D vwCl ((h0, .inr (12, (fs_49.set 33 (.ref q_50)))) :: (q_50, .inl (D.1 14, 3, .inl (upd (upd (upd (fun _ => 0) 0 97) 1 110) 2 100))) :: (q_48, .inl (D.1 14, 2, .inl (upd (upd (fun _ => 0) 0 111) 1 114))) :: T) H := hP
  have hD : va_D A ((h0, .inr (12, (fs_49.set 33 (.ref q_50)))) :: (q_50, .inl (D.1 14, 3, .inl (upd (upd (upd (fun _ => 0) 0 97) 1 110) 2 100))) :: (q_48, .inl (D.1 14, 2, .inl (upd (upd (fun _ => 0) 0 111) 1 114))) :: T) := hD
  generalize hfs_51 : fs_49.set 33 (.ref q_50) = fs_51 at hP hD
  have hlen : fs_51.length = 116 := by rw [← hfs_51, List.length_set]; exact hlen
  have hP : va_P D vwCl ((h0, .inr (12, fs_51)) :: (q_50, .inl (D.1 14, 3, .inl (upd (upd (upd (fun _ => 0) 0 97) 1 110) 2 100))) :: (q_48, .inl (D.1 14, 2, .inl (upd (upd (fun _ => 0) 0 111) 1 114))) :: T) H := hP
  have hD : va_D A ((h0, .inr (12, fs_51)) :: (q_50, .inl (D.1 14, 3, .inl (upd (upd (upd (fun _ => 0) 0 97) 1 110) 2 100))) :: (q_48, .inl (D.1 14, 2, .inl (upd (upd (fun _ => 0) 0 111) 1 114))) :: T) := hD
  refine lv_aload_n hx hb dX12_init_729 rfl (lv_at hl 0 rfl) ?_
  refine lv_iconst (v := 3) hx hb dX12_init_730 (by decide) ?_
  refine va_newa (atype := .char) (a0 := (3, .inl (fun _ => 0))) (ty := .char) (N' := 3) hx hb (ht _ ac_char) rfl hK hP hD hS hA (fun _ => rfl) (by decide) (by decide) (by decide) (Nat.le_trans (Nat.le_of_ble_eq_true rfl) hRc) (Nat.le_trans (Nat.le_of_ble_eq_true rfl) hRs) dX12_init_731 (fun q_52 cA H hK2 hP hD hS => ?_)
  obtain rfl := z_cls_char hK hK2
  refine W.widen (k := 26) (n := 1716) (Nat.le_of_ble_eq_true rfl) (Nat.le_of_ble_eq_true rfl) ?_
  obtain ⟨hP, hD⟩ := z_rot hP hD
  have hP : va_P D vwCl ((h0, .inr (12, fs_51)) :: (q_52, .inl (D.1 14, 3, .inl (fun _ => 0))) :: (q_50, .inl (D.1 14, 3, .inl (upd (upd (upd (fun _ => 0) 0 97) 1 110) 2 100))) :: (q_48, .inl (D.1 14, 2, .inl (upd (upd (fun _ => 0) 0 111) 1 114))) :: T) H := hP
  have hD : va_D A ((h0, .inr (12, fs_51)) :: (q_52, .inl (D.1 14, 3, .inl (fun _ => 0))) :: (q_50, .inl (D.1 14, 3, .inl (upd (upd (upd (fun _ => 0) 0 97) 1 110) 2 100))) :: (q_48, .inl (D.1 14, 2, .inl (upd (upd (fun _ => 0) 0 111) 1 114))) :: T) := hD
  refine lv_dup hx hb dX12_init_733 rfl ?_
  refine lv_iconst (v := 0) hx hb dX12_init_734 (by decide) ?_
  refine lv_bipush (v := 110) hx hb dX12_init_735 (by decide) ?_
  refine va_cast hx hb hK hP hD hS 1 1 rfl rfl (z_in (by decide) (by decide)) dX12_init_737 (fun H locs hP hD hS => ?_)
  have hP : va_P D vwCl ((h0, .inr (12, fs_51)) :: (q_52, .inl (D.1 14, 3, .inl (upd (fun _ => 0) 0 110))) :: (q_50, .inl (D.1 14, 3, .inl (upd (upd (upd (fun _ => 0) 0 97) 1 110) 2 100))) :: (q_48, .inl (D.1 14, 2, .inl (upd (upd (fun _ => 0) 0 111) 1 114))) :: T) H := hP
  have hD : va_D A ((h0, .inr (12, fs_51)) :: (q_52, .inl (D.1 14, 3, .inl (upd (fun _ => 0) 0 110))) :: (q_50, .inl (D.1 14, 3, .inl (upd (upd (upd (fun _ => 0) 0 97) 1 110) 2 100))) :: (q_48, .inl (D.1 14, 2, .inl (upd (upd (fun _ => 0) 0 111) 1 114))) :: T) := hD
  refine lv_dup hx hb dX12_init_738 rfl ?_
  refine lv_iconst (v := 1) hx hb dX12_init_739 (by decide) ?_
  refine lv_bipush (v := 111) hx hb dX12_init_740 (by decide) ?_
  refine va_cast hx hb hK hP hD hS 1 1 rfl rfl (z_in (by decide) (by decide)) dX12_init_742 (fun H locs hP hD hS => ?_)
  have hP : va_P D vwCl ((h0, .inr (12, fs_51)) :: (q_52, .inl (D.1 14, 3, .inl (upd (upd (fun _ => 0) 0 110) 1 111))) :: (q_50, .inl (D.1 14, 3, .inl (upd (upd (upd (fun _ => 0) 0 97) 1 110) 2 100))) :: (q_48, .inl (D.1 14, 2, .inl (upd (upd (fun _ => 0) 0 111) 1 114))) :: T) H := hP
  have hD : va_D A ((h0, .inr (12, fs_51)) :: (q_52, .inl (D.1 14, 3, .inl (upd (upd (fun _ => 0) 0 110) 1 111))) :: (q_50, .inl (D.1 14, 3, .inl (upd (upd (upd (fun _ => 0) 0 97) 1 110) 2 100))) :: (q_48, .inl (D.1 14, 2, .inl (upd (upd (fun _ => 0) 0 111) 1 114))) :: T) := hD
  refine lv_dup hx hb dX12_init_743 rfl ?_
  refine lv_iconst (v := 2) hx hb dX12_init_744 (by decide) ?_
  refine lv_bipush (v := 116) hx hb dX12_init_745 (by decide) ?_
  refine va_cast hx hb hK hP hD hS 1 1 rfl rfl (z_in (by decide) (by decide)) dX12_init_747 (fun H locs hP hD hS => ?_)
  have hP : va_P D vwCl ((h0, .inr (12, fs_51)) :: (q_52, .inl (D.1 14, 3, .inl (upd (upd (upd (fun _ => 0) 0 110) 1 111) 2 116))) :: (q_50, .inl (D.1 14, 3, .inl (upd (upd (upd (fun _ => 0) 0 97) 1 110) 2 100))) :: (q_48, .inl (D.1 14, 2, .inl (upd (upd (fun _ => 0) 0 111) 1 114))) :: T) H := hP
  have hD : va_D A ((h0, .inr (12, fs_51)) :: (q_52, .inl (D.1 14, 3, .inl (upd (upd (upd (fun _ => 0) 0 110) 1 111) 2 116))) :: (q_50, .inl (D.1 14, 3, .inl (upd (upd (upd (fun _ => 0) 0 97) 1 110) 2 100))) :: (q_48, .inl (D.1 14, 2, .inl (upd (upd (fun _ => 0) 0 111) 1 114))) :: T) := hD
  refine va_putF (D := D) (ci := 12) (v := .ref q_52) (ty := .array .char) (C := RX12) (T := TX12) (N := 116) hx hb ht inX12 tyX12 tyX12_ok nmX12 hown hK hP hD hS 0 rfl rfl 34 (by decide) (ht (.fieldLink RX12 90 "CloneVolumesModel" "notWord" "[C") fl_X12_90) (fun _ h9 => h9) rfl hin rfl (by decide +kernel) rfl rfl (by rw [hlen]; decide) dX12_init_748 (fun H locs hP hD hS => ?_)
  have hP : va_P D vwCl ((h0, .inr (12, (fs_51.set 34 (.ref q_52)))) :: (q_52, .inl (D.1 14, 3, .inl (upd (upd (upd (fun _ => 0) 0 110) 1 111) 2 116))) :: (q_50, .inl (D.1 14, 3, .inl (upd (upd (upd (fun _ => 0) 0 97) 1 110) 2 100))) :: (q_48, .inl (D.1 14, 2, .inl (upd (upd (fun _ => 0) 0 111) 1 114))) :: T) H := hP
  have hD : va_D A ((h0, .inr (12, (fs_51.set 34 (.ref q_52)))) :: (q_52, .inl (D.1 14, 3, .inl (upd (upd (upd (fun _ => 0) 0 110) 1 111) 2 116))) :: (q_50, .inl (D.1 14, 3, .inl (upd (upd (upd (fun _ => 0) 0 97) 1 110) 2 100))) :: (q_48, .inl (D.1 14, 2, .inl (upd (upd (fun _ => 0) 0 111) 1 114))) :: T) := hD
  generalize hfs_53 : fs_51.set 34 (.ref q_52) = fs_53 at hP hD
  have hlen : fs_53.length = 116 := by rw [← hfs_53, List.length_set]; exact hlen
  have hP : va_P D vwCl ((h0, .inr (12, fs_53)) :: (q_52, .inl (D.1 14, 3, .inl (upd (upd (upd (fun _ => 0) 0 110) 1 111) 2 116))) :: (q_50, .inl (D.1 14, 3, .inl (upd (upd (upd (fun _ => 0) 0 97) 1 110) 2 100))) :: (q_48, .inl (D.1 14, 2, .inl (upd (upd (fun _ => 0) 0 111) 1 114))) :: T) H := hP
  have hD : va_D A ((h0, .inr (12, fs_53)) :: (q_52, .inl (D.1 14, 3, .inl (upd (upd (upd (fun _ => 0) 0 110) 1 111) 2 116))) :: (q_50, .inl (D.1 14, 3, .inl (upd (upd (upd (fun _ => 0) 0 97) 1 110) 2 100))) :: (q_48, .inl (D.1 14, 2, .inl (upd (upd (fun _ => 0) 0 111) 1 114))) :: T) := hD
  refine lv_aload_n hx hb dX12_init_751 rfl (lv_at hl 0 rfl) ?_
  refine lv_iconst (v := 3) hx hb dX12_init_752 (by decide) ?_
  refine va_newa (atype := .char) (a0 := (3, .inl (fun _ => 0))) (ty := .char) (N' := 3) hx hb (ht _ ac_char) rfl hK hP hD hS hA (fun _ => rfl) (by decide) (by decide) (by decide) (Nat.le_trans (Nat.le_of_ble_eq_true rfl) hRc) (Nat.le_trans (Nat.le_of_ble_eq_true rfl) hRs) dX12_init_753 (fun q_54 cA H hK2 hP hD hS => ?_)
  obtain rfl := z_cls_char hK hK2
  refine W.widen (k := 27) (n := 1719) (Nat.le_of_ble_eq_true rfl) (Nat.le_of_ble_eq_true rfl) ?_
  obtain ⟨hP, hD⟩ := z_rot hP hD
  have hP : va_P D vwCl ((h0, .inr (12, fs_53)) :: (q_54, .inl (D.1 14, 3, .inl (fun _ => 0))) :: (q_52, .inl (D.1 14, 3, .inl (upd (upd (upd (fun _ => 0) 0 110) 1 111) 2 116))) :: (q_50, .inl (D.1 14, 3, .inl (upd (upd (upd (fun _ => 0) 0 97) 1 110) 2 100))) :: (q_48, .inl (D.1 14, 2, .inl (upd (upd (fun _ => 0) 0 111) 1 114))) :: T) H := hP
  have hD : va_D A ((h0, .inr (12, fs_53)) :: (q_54, .inl (D.1 14, 3, .inl (fun _ => 0))) :: (q_52, .inl (D.1 14, 3, .inl (upd (upd (upd (fun _ => 0) 0 110) 1 111) 2 116))) :: (q_50, .inl (D.1 14, 3, .inl (upd (upd (upd (fun _ => 0) 0 97) 1 110) 2 100))) :: (q_48, .inl (D.1 14, 2, .inl (upd (upd (fun _ => 0) 0 111) 1 114))) :: T) := hD
  refine lv_dup hx hb dX12_init_755 rfl ?_
  refine lv_iconst (v := 0) hx hb dX12_init_756 (by decide) ?_
  refine lv_bipush (v := 97) hx hb dX12_init_757 (by decide) ?_
  refine va_cast hx hb hK hP hD hS 1 1 rfl rfl (z_in (by decide) (by decide)) dX12_init_759 (fun H locs hP hD hS => ?_)
  have hP : va_P D vwCl ((h0, .inr (12, fs_53)) :: (q_54, .inl (D.1 14, 3, .inl (upd (fun _ => 0) 0 97))) :: (q_52, .inl (D.1 14, 3, .inl (upd (upd (upd (fun _ => 0) 0 110) 1 111) 2 116))) :: (q_50, .inl (D.1 14, 3, .inl (upd (upd (upd (fun _ => 0) 0 97) 1 110) 2 100))) :: (q_48, .inl (D.1 14, 2, .inl (upd (upd (fun _ => 0) 0 111) 1 114))) :: T) H := hP
  have hD : va_D A ((h0, .inr (12, fs_53)) :: (q_54, .inl (D.1 14, 3, .inl (upd (fun _ => 0) 0 97))) :: (q_52, .inl (D.1 14, 3, .inl (upd (upd (upd (fun _ => 0) 0 110) 1 111) 2 116))) :: (q_50, .inl (D.1 14, 3, .inl (upd (upd (upd (fun _ => 0) 0 97) 1 110) 2 100))) :: (q_48, .inl (D.1 14, 2, .inl (upd (upd (fun _ => 0) 0 111) 1 114))) :: T) := hD
  refine lv_dup hx hb dX12_init_760 rfl ?_
  refine lv_iconst (v := 1) hx hb dX12_init_761 (by decide) ?_
  refine lv_bipush (v := 108) hx hb dX12_init_762 (by decide) ?_
  refine va_cast hx hb hK hP hD hS 1 1 rfl rfl (z_in (by decide) (by decide)) dX12_init_764 (fun H locs hP hD hS => ?_)
  have hP : va_P D vwCl ((h0, .inr (12, fs_53)) :: (q_54, .inl (D.1 14, 3, .inl (upd (upd (fun _ => 0) 0 97) 1 108))) :: (q_52, .inl (D.1 14, 3, .inl (upd (upd (upd (fun _ => 0) 0 110) 1 111) 2 116))) :: (q_50, .inl (D.1 14, 3, .inl (upd (upd (upd (fun _ => 0) 0 97) 1 110) 2 100))) :: (q_48, .inl (D.1 14, 2, .inl (upd (upd (fun _ => 0) 0 111) 1 114))) :: T) H := hP
  have hD : va_D A ((h0, .inr (12, fs_53)) :: (q_54, .inl (D.1 14, 3, .inl (upd (upd (fun _ => 0) 0 97) 1 108))) :: (q_52, .inl (D.1 14, 3, .inl (upd (upd (upd (fun _ => 0) 0 110) 1 111) 2 116))) :: (q_50, .inl (D.1 14, 3, .inl (upd (upd (upd (fun _ => 0) 0 97) 1 110) 2 100))) :: (q_48, .inl (D.1 14, 2, .inl (upd (upd (fun _ => 0) 0 111) 1 114))) :: T) := hD
  refine lv_dup hx hb dX12_init_765 rfl ?_
  refine lv_iconst (v := 2) hx hb dX12_init_766 (by decide) ?_
  refine lv_bipush (v := 108) hx hb dX12_init_767 (by decide) ?_
  refine va_cast hx hb hK hP hD hS 1 1 rfl rfl (z_in (by decide) (by decide)) dX12_init_769 (fun H locs hP hD hS => ?_)
  have hP : va_P D vwCl ((h0, .inr (12, fs_53)) :: (q_54, .inl (D.1 14, 3, .inl (upd (upd (upd (fun _ => 0) 0 97) 1 108) 2 108))) :: (q_52, .inl (D.1 14, 3, .inl (upd (upd (upd (fun _ => 0) 0 110) 1 111) 2 116))) :: (q_50, .inl (D.1 14, 3, .inl (upd (upd (upd (fun _ => 0) 0 97) 1 110) 2 100))) :: (q_48, .inl (D.1 14, 2, .inl (upd (upd (fun _ => 0) 0 111) 1 114))) :: T) H := hP
  have hD : va_D A ((h0, .inr (12, fs_53)) :: (q_54, .inl (D.1 14, 3, .inl (upd (upd (upd (fun _ => 0) 0 97) 1 108) 2 108))) :: (q_52, .inl (D.1 14, 3, .inl (upd (upd (upd (fun _ => 0) 0 110) 1 111) 2 116))) :: (q_50, .inl (D.1 14, 3, .inl (upd (upd (upd (fun _ => 0) 0 97) 1 110) 2 100))) :: (q_48, .inl (D.1 14, 2, .inl (upd (upd (fun _ => 0) 0 111) 1 114))) :: T) := hD
  refine va_putF (D := D) (ci := 12) (v := .ref q_54) (ty := .array .char) (C := RX12) (T := TX12) (N := 116) hx hb ht inX12 tyX12 tyX12_ok nmX12 hown hK hP hD hS 0 rfl rfl 35 (by decide) (ht (.fieldLink RX12 93 "CloneVolumesModel" "allWord" "[C") fl_X12_93) (fun _ h9 => h9) rfl hin rfl (by decide +kernel) rfl rfl (by rw [hlen]; decide) dX12_init_770 (fun H locs hP hD hS => ?_)
  have hP : va_P D vwCl ((h0, .inr (12, (fs_53.set 35 (.ref q_54)))) :: (q_54, .inl (D.1 14, 3, .inl (upd (upd (upd (fun _ => 0) 0 97) 1 108) 2 108))) :: (q_52, .inl (D.1 14, 3, .inl (upd (upd (upd (fun _ => 0) 0 110) 1 111) 2 116))) :: (q_50, .inl (D.1 14, 3, .inl (upd (upd (upd (fun _ => 0) 0 97) 1 110) 2 100))) :: (q_48, .inl (D.1 14, 2, .inl (upd (upd (fun _ => 0) 0 111) 1 114))) :: T) H := hP
  have hD : va_D A ((h0, .inr (12, (fs_53.set 35 (.ref q_54)))) :: (q_54, .inl (D.1 14, 3, .inl (upd (upd (upd (fun _ => 0) 0 97) 1 108) 2 108))) :: (q_52, .inl (D.1 14, 3, .inl (upd (upd (upd (fun _ => 0) 0 110) 1 111) 2 116))) :: (q_50, .inl (D.1 14, 3, .inl (upd (upd (upd (fun _ => 0) 0 97) 1 110) 2 100))) :: (q_48, .inl (D.1 14, 2, .inl (upd (upd (fun _ => 0) 0 111) 1 114))) :: T) := hD
  generalize hfs_55 : fs_53.set 35 (.ref q_54) = fs_55 at hP hD
  have hlen : fs_55.length = 116 := by rw [← hfs_55, List.length_set]; exact hlen
  have hP : va_P D vwCl ((h0, .inr (12, fs_55)) :: (q_54, .inl (D.1 14, 3, .inl (upd (upd (upd (fun _ => 0) 0 97) 1 108) 2 108))) :: (q_52, .inl (D.1 14, 3, .inl (upd (upd (upd (fun _ => 0) 0 110) 1 111) 2 116))) :: (q_50, .inl (D.1 14, 3, .inl (upd (upd (upd (fun _ => 0) 0 97) 1 110) 2 100))) :: (q_48, .inl (D.1 14, 2, .inl (upd (upd (fun _ => 0) 0 111) 1 114))) :: T) H := hP
  have hD : va_D A ((h0, .inr (12, fs_55)) :: (q_54, .inl (D.1 14, 3, .inl (upd (upd (upd (fun _ => 0) 0 97) 1 108) 2 108))) :: (q_52, .inl (D.1 14, 3, .inl (upd (upd (upd (fun _ => 0) 0 110) 1 111) 2 116))) :: (q_50, .inl (D.1 14, 3, .inl (upd (upd (upd (fun _ => 0) 0 97) 1 110) 2 100))) :: (q_48, .inl (D.1 14, 2, .inl (upd (upd (fun _ => 0) 0 111) 1 114))) :: T) := hD
  exact kk q_54 q_52 q_50 q_48 fs_55 _ _ (by rw [← hfs_55, ← hfs_53, ← hfs_51, ← hfs_49]) hP hD hS
set_option maxHeartbeats 4000000 in
set_option maxRecDepth 100000 in
theorem cM_11 {p : Program} {l : Launch} {e : Env} {R : Room} {s : State} {m : MethodId} {args : Array Value} {below : List Frame} {meth : Method} {c : Code} {Q : State → Prop} {D : va_G} {A : Nat → Prop} {ls : Array Slot} {h0 : Nat} {T : va_W} (hx : p.tables.exec = Jvm.exec) (hb : c.code = cX12_init) (ht : ∀ w ∈ lw_gd, w.before args s = true) (hown : s.vm.findClass RX12 = some m.cls) (hin : meth.name = "<init>") (hK : va_K D vwCl (TY D) s) (hA : ∀ q : Nat, s.heap.size ≤ q → A q) (hRc : 80 ≤ R.cells) (hRs : 35050 ≤ R.slots) (hl : lv_has ls 1 [(0, .ref h0)]) {fs : List Value} (hlen : fs.length = 116) {H : Heap} {locs : List Loc} (hP : va_P D vwCl ((h0, .inr (12, fs)) :: T) H) (hD : va_D A ((h0, .inr (12, fs)) :: T)) (hS : va_S A s.heap H locs)
    (kk : ∀ (q_66 : Nat) (q_64 : Nat) (q_62 : Nat) (q_60 : Nat) (q_58 : Nat) (q_56 : Nat) (fs' : List Value) (H : Heap) (locs : List Loc), fs' = ((((((fs.set 36 (.ref q_56)).set 37 (.ref q_58)).set 39 (.ref q_60)).set 40 (.ref q_62)).set 41 (.ref q_64)).set 42 (.ref q_66)) → va_P D vwCl ((h0, .inr (12, fs')) :: (q_66, .inl (D.1 13, 6, .inl (upd (upd (upd (upd (upd (upd (fun _ => 0) 0 (-1)) 1 (-1)) 2 (-1)) 3 (-1)) 4 (-1)) 5 (-1)))) :: (q_64, .inl (D.1 13, 240, .inl (fun _ => 0))) :: (q_62, .inl (D.1 15, 16, .inr (.inl (fun _ => 0)))) :: (q_60, .inl (D.1 13, 10, .inl (fun _ => 0))) :: (q_58, .inl (D.1 14, 3, .inl (upd (upd (upd (fun _ => 0) 0 109) 1 97) 2 120))) :: (q_56, .inl (D.1 14, 3, .inl (upd (upd (upd (fun _ => 0) 0 109) 1 105) 2 110))) :: T) H → va_D A ((h0, .inr (12, fs')) :: (q_66, .inl (D.1 13, 6, .inl (upd (upd (upd (upd (upd (upd (fun _ => 0) 0 (-1)) 1 (-1)) 2 (-1)) 3 (-1)) 4 (-1)) 5 (-1)))) :: (q_64, .inl (D.1 13, 240, .inl (fun _ => 0))) :: (q_62, .inl (D.1 15, 16, .inr (.inl (fun _ => 0)))) :: (q_60, .inl (D.1 13, 10, .inl (fun _ => 0))) :: (q_58, .inl (D.1 14, 3, .inl (upd (upd (upd (fun _ => 0) 0 109) 1 97) 2 120))) :: (q_56, .inl (D.1 14, 3, .inl (upd (upd (upd (fun _ => 0) 0 109) 1 105) 2 110))) :: T) → va_S A s.heap H locs → W p l e R s m args below meth c H locs 33 1997 Q (F0 m 874 ls [])) : W p l e R s m args below meth c H locs 27 1719 Q (F0 m 773 ls []) := by
  refine lv_aload_n hx hb dX12_init_773 rfl (lv_at hl 0 rfl) ?_
  refine lv_iconst (v := 3) hx hb dX12_init_774 (by decide) ?_
  refine va_newa (atype := .char) (a0 := (3, .inl (fun _ => 0))) (ty := .char) (N' := 3) hx hb (ht _ ac_char) rfl hK hP hD hS hA (fun _ => rfl) (by decide) (by decide) (by decide) (Nat.le_trans (Nat.le_of_ble_eq_true rfl) hRc) (Nat.le_trans (Nat.le_of_ble_eq_true rfl) hRs) dX12_init_775 (fun q_56 cA H hK2 hP hD hS => ?_)
  obtain rfl := z_cls_char hK hK2
  refine W.widen (k := 28) (n := 1722) (Nat.le_of_ble_eq_true rfl) (Nat.le_of_ble_eq_true rfl) ?_
  obtain ⟨hP, hD⟩ := z_rot hP hD
  have hP : va_P D vwCl ((h0, .inr (12, fs)) :: (q_56, .inl (D.1 14, 3, .inl (fun _ => 0))) :: T) H := hP
  have hD : va_D A ((h0, .inr (12, fs)) :: (q_56, .inl (D.1 14, 3, .inl (fun _ => 0))) :: T) := hD
  refine lv_dup hx hb dX12_init_777 rfl ?_
  refine lv_iconst (v := 0) hx hb dX12_init_778 (by decide) ?_
  refine lv_bipush (v := 109) hx hb dX12_init_779 (by decide) ?_
  refine va_cast hx hb hK hP hD hS 1 1 rfl rfl (z_in (by decide) (by decide)) dX12_init_781 (fun H locs hP hD hS => ?_)
  have hP : va_P D vwCl ((h0, .inr (12, fs)) :: (q_56, .inl (D.1 14, 3, .inl (upd (fun _ => 0) 0 109))) :: T) H := hP
  have hD : va_D A ((h0, .inr (12, fs)) :: (q_56, .inl (D.1 14, 3, .inl (upd (fun _ => 0) 0 109))) :: T) := hD
  refine lv_dup hx hb dX12_init_782 rfl ?_
  refine lv_iconst (v := 1) hx hb dX12_init_783 (by decide) ?_
  refine lv_bipush (v := 105) hx hb dX12_init_784 (by decide) ?_
  refine va_cast hx hb hK hP hD hS 1 1 rfl rfl (z_in (by decide) (by decide)) dX12_init_786 (fun H locs hP hD hS => ?_)
  have hP : va_P D vwCl ((h0, .inr (12, fs)) :: (q_56, .inl (D.1 14, 3, .inl (upd (upd (fun _ => 0) 0 109) 1 105))) :: T) H := hP
  have hD : va_D A ((h0, .inr (12, fs)) :: (q_56, .inl (D.1 14, 3, .inl (upd (upd (fun _ => 0) 0 109) 1 105))) :: T) := hD
  refine lv_dup hx hb dX12_init_787 rfl ?_
  refine lv_iconst (v := 2) hx hb dX12_init_788 (by decide) ?_
  refine lv_bipush (v := 110) hx hb dX12_init_789 (by decide) ?_
  refine va_cast hx hb hK hP hD hS 1 1 rfl rfl (z_in (by decide) (by decide)) dX12_init_791 (fun H locs hP hD hS => ?_)
  have hP : va_P D vwCl ((h0, .inr (12, fs)) :: (q_56, .inl (D.1 14, 3, .inl (upd (upd (upd (fun _ => 0) 0 109) 1 105) 2 110))) :: T) H := hP
  have hD : va_D A ((h0, .inr (12, fs)) :: (q_56, .inl (D.1 14, 3, .inl (upd (upd (upd (fun _ => 0) 0 109) 1 105) 2 110))) :: T) := hD
  refine va_putF (D := D) (ci := 12) (v := .ref q_56) (ty := .array .char) (C := RX12) (T := TX12) (N := 116) hx hb ht inX12 tyX12 tyX12_ok nmX12 hown hK hP hD hS 0 rfl rfl 36 (by decide) (ht (.fieldLink RX12 96 "CloneVolumesModel" "minWord" "[C") fl_X12_96) (fun _ h9 => h9) rfl hin rfl (by decide +kernel) rfl rfl (by rw [hlen]; decide) dX12_init_792 (fun H locs hP hD hS => ?_)
  have hP : va_P D vwCl ((h0, .inr (12, (fs.set 36 (.ref q_56)))) :: (q_56, .inl (D.1 14, 3, .inl (upd (upd (upd (fun _ => 0) 0 109) 1 105) 2 110))) :: T) H := hP
  have hD : va_D A ((h0, .inr (12, (fs.set 36 (.ref q_56)))) :: (q_56, .inl (D.1 14, 3, .inl (upd (upd (upd (fun _ => 0) 0 109) 1 105) 2 110))) :: T) := hD
  generalize hfs_57 : fs.set 36 (.ref q_56) = fs_57 at hP hD
  have hlen : fs_57.length = 116 := by rw [← hfs_57, List.length_set]; exact hlen
  have hP : va_P D vwCl ((h0, .inr (12, fs_57)) :: (q_56, .inl (D.1 14, 3, .inl (upd (upd (upd (fun _ => 0) 0 109) 1 105) 2 110))) :: T) H := hP
  have hD : va_D A ((h0, .inr (12, fs_57)) :: (q_56, .inl (D.1 14, 3, .inl (upd (upd (upd (fun _ => 0) 0 109) 1 105) 2 110))) :: T) := hD
  refine lv_aload_n hx hb dX12_init_795 rfl (lv_at hl 0 rfl) ?_
  refine lv_iconst (v := 3) hx hb dX12_init_796 (by decide) ?_
  refine va_newa (atype := .char) (a0 := (3, .inl (fun _ => 0))) (ty := .char) (N' := 3) hx hb (ht _ ac_char) rfl hK hP hD hS hA (fun _ => rfl) (by decide) (by decide) (by decide) (Nat.le_trans (Nat.le_of_ble_eq_true rfl) hRc) (Nat.le_trans (Nat.le_of_ble_eq_true rfl) hRs) dX12_init_797 (fun q_58 cA H hK2 hP hD hS => ?_)
  obtain rfl := z_cls_char hK hK2
  refine W.widen (k := 29) (n := 1725) (Nat.le_of_ble_eq_true rfl) (Nat.le_of_ble_eq_true rfl) ?_
  obtain ⟨hP, hD⟩ := z_rot hP hD
  have hP : va_P D vwCl ((h0, .inr (12, fs_57)) :: (q_58, .inl (D.1 14, 3, .inl (fun _ => 0))) :: (q_56, .inl (D.1 14, 3, .inl (upd (upd (upd (fun _ => 0) 0 109) 1 105) 2 110))) :: T) H := hP
  have hD : va_D A ((h0, .inr (12, fs_57)) :: (q_58, .inl (D.1 14, 3, .inl (fun _ => 0))) :: (q_56, .inl (D.1 14, 3, .inl (upd (upd (upd (fun _ => 0) 0 109) 1 105) 2 110))) :: T) := hD
  refine lv_dup hx hb dX12_init_799 rfl ?_
  refine lv_iconst (v := 0) hx hb dX12_init_800 (by decide) ?_
  refine lv_bipush (v := 109) hx hb dX12_init_801 (by decide) ?_
  refine va_cast hx hb hK hP hD hS 1 1 rfl rfl (z_in (by decide) (by decide)) dX12_init_803 (fun H locs hP hD hS => ?_)
  have hP : va_P D vwCl ((h0, .inr (12, fs_57)) :: (q_58, .inl (D.1 14, 3, .inl (upd (fun _ => 0) 0 109))) :: (q_56, .inl (D.1 14, 3, .inl (upd (upd (upd (fun _ => 0) 0 109) 1 105) 2 110))) :: T) H := hP
  have hD : va_D A ((h0, .inr (12, fs_57)) :: (q_58, .inl (D.1 14, 3, .inl (upd (fun _ => 0) 0 109))) :: (q_56, .inl (D.1 14, 3, .inl (upd (upd (upd (fun _ => 0) 0 109) 1 105) 2 110))) :: T) := hD
  refine lv_dup hx hb dX12_init_804 rfl ?_
  refine lv_iconst (v := 1) hx hb dX12_init_805 (by decide) ?_
  refine lv_bipush (v := 97) hx hb dX12_init_806 (by decide) ?_
  refine va_cast hx hb hK hP hD hS 1 1 rfl rfl (z_in (by decide) (by decide)) dX12_init_808 (fun H locs hP hD hS => ?_)
  have hP : va_P D vwCl ((h0, .inr (12, fs_57)) :: (q_58, .inl (D.1 14, 3, .inl (upd (upd (fun _ => 0) 0 109) 1 97))) :: (q_56, .inl (D.1 14, 3, .inl (upd (upd (upd (fun _ => 0) 0 109) 1 105) 2 110))) :: T) H := hP
  have hD : va_D A ((h0, .inr (12, fs_57)) :: (q_58, .inl (D.1 14, 3, .inl (upd (upd (fun _ => 0) 0 109) 1 97))) :: (q_56, .inl (D.1 14, 3, .inl (upd (upd (upd (fun _ => 0) 0 109) 1 105) 2 110))) :: T) := hD
  refine lv_dup hx hb dX12_init_809 rfl ?_
  refine lv_iconst (v := 2) hx hb dX12_init_810 (by decide) ?_
  refine lv_bipush (v := 120) hx hb dX12_init_811 (by decide) ?_
  refine va_cast hx hb hK hP hD hS 1 1 rfl rfl (z_in (by decide) (by decide)) dX12_init_813 (fun H locs hP hD hS => ?_)
  have hP : va_P D vwCl ((h0, .inr (12, fs_57)) :: (q_58, .inl (D.1 14, 3, .inl (upd (upd (upd (fun _ => 0) 0 109) 1 97) 2 120))) :: (q_56, .inl (D.1 14, 3, .inl (upd (upd (upd (fun _ => 0) 0 109) 1 105) 2 110))) :: T) H := hP
  have hD : va_D A ((h0, .inr (12, fs_57)) :: (q_58, .inl (D.1 14, 3, .inl (upd (upd (upd (fun _ => 0) 0 109) 1 97) 2 120))) :: (q_56, .inl (D.1 14, 3, .inl (upd (upd (upd (fun _ => 0) 0 109) 1 105) 2 110))) :: T) := hD
  refine va_putF (D := D) (ci := 12) (v := .ref q_58) (ty := .array .char) (C := RX12) (T := TX12) (N := 116) hx hb ht inX12 tyX12 tyX12_ok nmX12 hown hK hP hD hS 0 rfl rfl 37 (by decide) (ht (.fieldLink RX12 99 "CloneVolumesModel" "maxWord" "[C") fl_X12_99) (fun _ h9 => h9) rfl hin rfl (by decide +kernel) rfl rfl (by rw [hlen]; decide) dX12_init_814 (fun H locs hP hD hS => ?_)
  have hP : va_P D vwCl ((h0, .inr (12, (fs_57.set 37 (.ref q_58)))) :: (q_58, .inl (D.1 14, 3, .inl (upd (upd (upd (fun _ => 0) 0 109) 1 97) 2 120))) :: (q_56, .inl (D.1 14, 3, .inl (upd (upd (upd (fun _ => 0) 0 109) 1 105) 2 110))) :: T) H := hP
  have hD : va_D A ((h0, .inr (12, (fs_57.set 37 (.ref q_58)))) :: (q_58, .inl (D.1 14, 3, .inl (upd (upd (upd (fun _ => 0) 0 109) 1 97) 2 120))) :: (q_56, .inl (D.1 14, 3, .inl (upd (upd (upd (fun _ => 0) 0 109) 1 105) 2 110))) :: T) := hD
  generalize hfs_59 : fs_57.set 37 (.ref q_58) = fs_59 at hP hD
  have hlen : fs_59.length = 116 := by rw [← hfs_59, List.length_set]; exact hlen
  have hP : va_P D vwCl ((h0, .inr (12, fs_59)) :: (q_58, .inl (D.1 14, 3, .inl (upd (upd (upd (fun _ => 0) 0 109) 1 97) 2 120))) :: (q_56, .inl (D.1 14, 3, .inl (upd (upd (upd (fun _ => 0) 0 109) 1 105) 2 110))) :: T) H := hP
  have hD : va_D A ((h0, .inr (12, fs_59)) :: (q_58, .inl (D.1 14, 3, .inl (upd (upd (upd (fun _ => 0) 0 109) 1 97) 2 120))) :: (q_56, .inl (D.1 14, 3, .inl (upd (upd (upd (fun _ => 0) 0 109) 1 105) 2 110))) :: T) := hD
  refine lv_aload_n hx hb dX12_init_817 rfl (lv_at hl 0 rfl) ?_
  refine lv_bipush (v := 10) hx hb dX12_init_818 (by decide) ?_
  refine va_newa (atype := .int) (a0 := (10, .inl (fun _ => 0))) (ty := .int) (N' := 10) hx hb (ht _ ac_int) rfl hK hP hD hS hA (fun _ => rfl) (by decide) (by decide) (by decide) (Nat.le_trans (Nat.le_of_ble_eq_true rfl) hRc) (Nat.le_trans (Nat.le_of_ble_eq_true rfl) hRs) dX12_init_820 (fun q_60 cA H hK2 hP hD hS => ?_)
  obtain rfl := z_cls_int hK hK2
  refine W.widen (k := 30) (n := 1735) (Nat.le_of_ble_eq_true rfl) (Nat.le_of_ble_eq_true rfl) ?_
  obtain ⟨hP, hD⟩ := z_rot hP hD
  have hP : va_P D vwCl ((h0, .inr (12, fs_59)) :: (q_60, .inl (D.1 13, 10, .inl (fun _ => 0))) :: (q_58, .inl (D.1 14, 3, .inl (upd (upd (upd (fun _ => 0) 0 109) 1 97) 2 120))) :: (q_56, .inl (D.1 14, 3, .inl (upd (upd (upd (fun _ => 0) 0 109) 1 105) 2 110))) :: T) H := hP
  have hD : va_D A ((h0, .inr (12, fs_59)) :: (q_60, .inl (D.1 13, 10, .inl (fun _ => 0))) :: (q_58, .inl (D.1 14, 3, .inl (upd (upd (upd (fun _ => 0) 0 109) 1 97) 2 120))) :: (q_56, .inl (D.1 14, 3, .inl (upd (upd (upd (fun _ => 0) 0 109) 1 105) 2 110))) :: T) := hD
  refine va_putF (D := D) (ci := 12) (v := .ref q_60) (ty := .array .int) (C := RX12) (T := TX12) (N := 116) hx hb ht inX12 tyX12 tyX12_ok nmX12 hown hK hP hD hS 0 rfl rfl 39 (by decide) (ht (.fieldLink RX12 102 "CloneVolumesModel" "many" "[I") fl_X12_102) (fun _ h9 => h9) rfl hin rfl (by decide +kernel) rfl rfl (by rw [hlen]; decide) dX12_init_822 (fun H locs hP hD hS => ?_)
  have hP : va_P D vwCl ((h0, .inr (12, (fs_59.set 39 (.ref q_60)))) :: (q_60, .inl (D.1 13, 10, .inl (fun _ => 0))) :: (q_58, .inl (D.1 14, 3, .inl (upd (upd (upd (fun _ => 0) 0 109) 1 97) 2 120))) :: (q_56, .inl (D.1 14, 3, .inl (upd (upd (upd (fun _ => 0) 0 109) 1 105) 2 110))) :: T) H := hP
  have hD : va_D A ((h0, .inr (12, (fs_59.set 39 (.ref q_60)))) :: (q_60, .inl (D.1 13, 10, .inl (fun _ => 0))) :: (q_58, .inl (D.1 14, 3, .inl (upd (upd (upd (fun _ => 0) 0 109) 1 97) 2 120))) :: (q_56, .inl (D.1 14, 3, .inl (upd (upd (upd (fun _ => 0) 0 109) 1 105) 2 110))) :: T) := hD
  generalize hfs_61 : fs_59.set 39 (.ref q_60) = fs_61 at hP hD
  have hlen : fs_61.length = 116 := by rw [← hfs_61, List.length_set]; exact hlen
  have hP : va_P D vwCl ((h0, .inr (12, fs_61)) :: (q_60, .inl (D.1 13, 10, .inl (fun _ => 0))) :: (q_58, .inl (D.1 14, 3, .inl (upd (upd (upd (fun _ => 0) 0 109) 1 97) 2 120))) :: (q_56, .inl (D.1 14, 3, .inl (upd (upd (upd (fun _ => 0) 0 109) 1 105) 2 110))) :: T) H := hP
  have hD : va_D A ((h0, .inr (12, fs_61)) :: (q_60, .inl (D.1 13, 10, .inl (fun _ => 0))) :: (q_58, .inl (D.1 14, 3, .inl (upd (upd (upd (fun _ => 0) 0 109) 1 97) 2 120))) :: (q_56, .inl (D.1 14, 3, .inl (upd (upd (upd (fun _ => 0) 0 109) 1 105) 2 110))) :: T) := hD
  refine lv_aload_n hx hb dX12_init_825 rfl (lv_at hl 0 rfl) ?_
  refine lv_bipush (v := 16) hx hb dX12_init_826 (by decide) ?_
  refine va_newa (atype := .long) (a0 := (16, .inr (.inl (fun _ => 0)))) (ty := .long) (N' := 16) hx hb (ht _ ac_long) rfl hK hP hD hS hA (fun _ => rfl) (by decide) (by decide) (by decide) (Nat.le_trans (Nat.le_of_ble_eq_true rfl) hRc) (Nat.le_trans (Nat.le_of_ble_eq_true rfl) hRs) dX12_init_828 (fun q_62 cA H hK2 hP hD hS => ?_)
  obtain rfl := z_cls_long hK hK2
  refine W.widen (k := 31) (n := 1751) (Nat.le_of_ble_eq_true rfl) (Nat.le_of_ble_eq_true rfl) ?_
  obtain ⟨hP, hD⟩ := z_rot hP hD
  have hP : va_P D vwCl ((h0, .inr (12, fs_61)) :: (q_62, .inl (D.1 15, 16, .inr (.inl (fun _ => 0)))) :: (q_60, .inl (D.1 13, 10, .inl (fun _ => 0))) :: (q_58, .inl (D.1 14, 3, .inl (upd (upd (upd (fun _ => 0) 0 109) 1 97) 2 120))) :: (q_56, .inl (D.1 14, 3, .inl (upd (upd (upd (fun _ => 0) 0 109) 1 105) 2 110))) :: T) H := hP
  have hD : va_D A ((h0, .inr (12, fs_61)) :: (q_62, .inl (D.1 15, 16, .inr (.inl (fun _ => 0)))) :: (q_60, .inl (D.1 13, 10, .inl (fun _ => 0))) :: (q_58, .inl (D.1 14, 3, .inl (upd (upd (upd (fun _ => 0) 0 109) 1 97) 2 120))) :: (q_56, .inl (D.1 14, 3, .inl (upd (upd (upd (fun _ => 0) 0 109) 1 105) 2 110))) :: T) := hD
  refine va_putF (D := D) (ci := 12) (v := .ref q_62) (ty := .array .long) (C := RX12) (T := TX12) (N := 116) hx hb ht inX12 tyX12 tyX12_ok nmX12 hown hK hP hD hS 0 rfl rfl 40 (by decide) (ht (.fieldLink RX12 105 "CloneVolumesModel" "names" "[J") fl_X12_105) (fun _ h9 => h9) rfl hin rfl (by decide +kernel) rfl rfl (by rw [hlen]; decide) dX12_init_830 (fun H locs hP hD hS => ?_)
  have hP : va_P D vwCl ((h0, .inr (12, (fs_61.set 40 (.ref q_62)))) :: (q_62, .inl (D.1 15, 16, .inr (.inl (fun _ => 0)))) :: (q_60, .inl (D.1 13, 10, .inl (fun _ => 0))) :: (q_58, .inl (D.1 14, 3, .inl (upd (upd (upd (fun _ => 0) 0 109) 1 97) 2 120))) :: (q_56, .inl (D.1 14, 3, .inl (upd (upd (upd (fun _ => 0) 0 109) 1 105) 2 110))) :: T) H := hP
  have hD : va_D A ((h0, .inr (12, (fs_61.set 40 (.ref q_62)))) :: (q_62, .inl (D.1 15, 16, .inr (.inl (fun _ => 0)))) :: (q_60, .inl (D.1 13, 10, .inl (fun _ => 0))) :: (q_58, .inl (D.1 14, 3, .inl (upd (upd (upd (fun _ => 0) 0 109) 1 97) 2 120))) :: (q_56, .inl (D.1 14, 3, .inl (upd (upd (upd (fun _ => 0) 0 109) 1 105) 2 110))) :: T) := hD
  generalize hfs_63 : fs_61.set 40 (.ref q_62) = fs_63 at hP hD
  have hlen : fs_63.length = 116 := by rw [← hfs_63, List.length_set]; exact hlen
  have hP : va_P D vwCl ((h0, .inr (12, fs_63)) :: (q_62, .inl (D.1 15, 16, .inr (.inl (fun _ => 0)))) :: (q_60, .inl (D.1 13, 10, .inl (fun _ => 0))) :: (q_58, .inl (D.1 14, 3, .inl (upd (upd (upd (fun _ => 0) 0 109) 1 97) 2 120))) :: (q_56, .inl (D.1 14, 3, .inl (upd (upd (upd (fun _ => 0) 0 109) 1 105) 2 110))) :: T) H := hP
  have hD : va_D A ((h0, .inr (12, fs_63)) :: (q_62, .inl (D.1 15, 16, .inr (.inl (fun _ => 0)))) :: (q_60, .inl (D.1 13, 10, .inl (fun _ => 0))) :: (q_58, .inl (D.1 14, 3, .inl (upd (upd (upd (fun _ => 0) 0 109) 1 97) 2 120))) :: (q_56, .inl (D.1 14, 3, .inl (upd (upd (upd (fun _ => 0) 0 109) 1 105) 2 110))) :: T) := hD
  refine lv_aload_n hx hb dX12_init_833 rfl (lv_at hl 0 rfl) ?_
  refine lv_sipush (v := 240) hx hb dX12_init_834 (by decide) ?_
  refine va_newa (atype := .int) (a0 := (240, .inl (fun _ => 0))) (ty := .int) (N' := 240) hx hb (ht _ ac_int) rfl hK hP hD hS hA (fun _ => rfl) (by decide) (by decide) (by decide) (Nat.le_trans (Nat.le_of_ble_eq_true rfl) hRc) (Nat.le_trans (Nat.le_of_ble_eq_true rfl) hRs) dX12_init_837 (fun q_64 cA H hK2 hP hD hS => ?_)
  obtain rfl := z_cls_int hK hK2
  refine W.widen (k := 32) (n := 1991) (Nat.le_of_ble_eq_true rfl) (Nat.le_of_ble_eq_true rfl) ?_
  obtain ⟨hP, hD⟩ := z_rot hP hD
  have hP : va_P D vwCl ((h0, .inr (12, fs_63)) :: (q_64, .inl (D.1 13, 240, .inl (fun _ => 0))) :: (q_62, .inl (D.1 15, 16, .inr (.inl (fun _ => 0)))) :: (q_60, .inl (D.1 13, 10, .inl (fun _ => 0))) :: (q_58, .inl (D.1 14, 3, .inl (upd (upd (upd (fun _ => 0) 0 109) 1 97) 2 120))) :: (q_56, .inl (D.1 14, 3, .inl (upd (upd (upd (fun _ => 0) 0 109) 1 105) 2 110))) :: T) H := hP
  have hD : va_D A ((h0, .inr (12, fs_63)) :: (q_64, .inl (D.1 13, 240, .inl (fun _ => 0))) :: (q_62, .inl (D.1 15, 16, .inr (.inl (fun _ => 0)))) :: (q_60, .inl (D.1 13, 10, .inl (fun _ => 0))) :: (q_58, .inl (D.1 14, 3, .inl (upd (upd (upd (fun _ => 0) 0 109) 1 97) 2 120))) :: (q_56, .inl (D.1 14, 3, .inl (upd (upd (upd (fun _ => 0) 0 109) 1 105) 2 110))) :: T) := hD
  refine va_putF (D := D) (ci := 12) (v := .ref q_64) (ty := .array .int) (C := RX12) (T := TX12) (N := 116) hx hb ht inX12 tyX12 tyX12_ok nmX12 hown hK hP hD hS 0 rfl rfl 41 (by decide) (ht (.fieldLink RX12 109 "CloneVolumesModel" "acts" "[I") fl_X12_109) (fun _ h9 => h9) rfl hin rfl (by decide +kernel) rfl rfl (by rw [hlen]; decide) dX12_init_839 (fun H locs hP hD hS => ?_)
  have hP : va_P D vwCl ((h0, .inr (12, (fs_63.set 41 (.ref q_64)))) :: (q_64, .inl (D.1 13, 240, .inl (fun _ => 0))) :: (q_62, .inl (D.1 15, 16, .inr (.inl (fun _ => 0)))) :: (q_60, .inl (D.1 13, 10, .inl (fun _ => 0))) :: (q_58, .inl (D.1 14, 3, .inl (upd (upd (upd (fun _ => 0) 0 109) 1 97) 2 120))) :: (q_56, .inl (D.1 14, 3, .inl (upd (upd (upd (fun _ => 0) 0 109) 1 105) 2 110))) :: T) H := hP
  have hD : va_D A ((h0, .inr (12, (fs_63.set 41 (.ref q_64)))) :: (q_64, .inl (D.1 13, 240, .inl (fun _ => 0))) :: (q_62, .inl (D.1 15, 16, .inr (.inl (fun _ => 0)))) :: (q_60, .inl (D.1 13, 10, .inl (fun _ => 0))) :: (q_58, .inl (D.1 14, 3, .inl (upd (upd (upd (fun _ => 0) 0 109) 1 97) 2 120))) :: (q_56, .inl (D.1 14, 3, .inl (upd (upd (upd (fun _ => 0) 0 109) 1 105) 2 110))) :: T) := hD
  generalize hfs_65 : fs_63.set 41 (.ref q_64) = fs_65 at hP hD
  have hlen : fs_65.length = 116 := by rw [← hfs_65, List.length_set]; exact hlen
  have hP : va_P D vwCl ((h0, .inr (12, fs_65)) :: (q_64, .inl (D.1 13, 240, .inl (fun _ => 0))) :: (q_62, .inl (D.1 15, 16, .inr (.inl (fun _ => 0)))) :: (q_60, .inl (D.1 13, 10, .inl (fun _ => 0))) :: (q_58, .inl (D.1 14, 3, .inl (upd (upd (upd (fun _ => 0) 0 109) 1 97) 2 120))) :: (q_56, .inl (D.1 14, 3, .inl (upd (upd (upd (fun _ => 0) 0 109) 1 105) 2 110))) :: T) H := hP
  have hD : va_D A ((h0, .inr (12, fs_65)) :: (q_64, .inl (D.1 13, 240, .inl (fun _ => 0))) :: (q_62, .inl (D.1 15, 16, .inr (.inl (fun _ => 0)))) :: (q_60, .inl (D.1 13, 10, .inl (fun _ => 0))) :: (q_58, .inl (D.1 14, 3, .inl (upd (upd (upd (fun _ => 0) 0 109) 1 97) 2 120))) :: (q_56, .inl (D.1 14, 3, .inl (upd (upd (upd (fun _ => 0) 0 109) 1 105) 2 110))) :: T) := hD
  refine lv_aload_n hx hb dX12_init_842 rfl (lv_at hl 0 rfl) ?_
  refine lv_bipush (v := 6) hx hb dX12_init_843 (by decide) ?_
  refine va_newa (atype := .int) (a0 := (6, .inl (fun _ => 0))) (ty := .int) (N' := 6) hx hb (ht _ ac_int) rfl hK hP hD hS hA (fun _ => rfl) (by decide) (by decide) (by decide) (Nat.le_trans (Nat.le_of_ble_eq_true rfl) hRc) (Nat.le_trans (Nat.le_of_ble_eq_true rfl) hRs) dX12_init_845 (fun q_66 cA H hK2 hP hD hS => ?_)
  obtain rfl := z_cls_int hK hK2
  refine W.widen (k := 33) (n := 1997) (Nat.le_of_ble_eq_true rfl) (Nat.le_of_ble_eq_true rfl) ?_
  obtain ⟨hP, hD⟩ := z_rot hP hD
  have hP : va_P D vwCl ((h0, .inr (12, fs_65)) :: (q_66, .inl (D.1 13, 6, .inl (fun _ => 0))) :: (q_64, .inl (D.1 13, 240, .inl (fun _ => 0))) :: (q_62, .inl (D.1 15, 16, .inr (.inl (fun _ => 0)))) :: (q_60, .inl (D.1 13, 10, .inl (fun _ => 0))) :: (q_58, .inl (D.1 14, 3, .inl (upd (upd (upd (fun _ => 0) 0 109) 1 97) 2 120))) :: (q_56, .inl (D.1 14, 3, .inl (upd (upd (upd (fun _ => 0) 0 109) 1 105) 2 110))) :: T) H := hP
  have hD : va_D A ((h0, .inr (12, fs_65)) :: (q_66, .inl (D.1 13, 6, .inl (fun _ => 0))) :: (q_64, .inl (D.1 13, 240, .inl (fun _ => 0))) :: (q_62, .inl (D.1 15, 16, .inr (.inl (fun _ => 0)))) :: (q_60, .inl (D.1 13, 10, .inl (fun _ => 0))) :: (q_58, .inl (D.1 14, 3, .inl (upd (upd (upd (fun _ => 0) 0 109) 1 97) 2 120))) :: (q_56, .inl (D.1 14, 3, .inl (upd (upd (upd (fun _ => 0) 0 109) 1 105) 2 110))) :: T) := hD
  refine lv_dup hx hb dX12_init_847 rfl ?_
  refine lv_iconst (v := 0) hx hb dX12_init_848 (by decide) ?_
  refine lv_iconst (v := (-1)) hx hb dX12_init_849 (by decide) ?_
  refine va_iast hx hb hK hP hD hS 1 0 rfl rfl (z_in (by decide) (by decide)) dX12_init_850 (fun H locs hP hD hS => ?_)
  have hP : va_P D vwCl ((h0, .inr (12, fs_65)) :: (q_66, .inl (D.1 13, 6, .inl (upd (fun _ => 0) 0 (-1)))) :: (q_64, .inl (D.1 13, 240, .inl (fun _ => 0))) :: (q_62, .inl (D.1 15, 16, .inr (.inl (fun _ => 0)))) :: (q_60, .inl (D.1 13, 10, .inl (fun _ => 0))) :: (q_58, .inl (D.1 14, 3, .inl (upd (upd (upd (fun _ => 0) 0 109) 1 97) 2 120))) :: (q_56, .inl (D.1 14, 3, .inl (upd (upd (upd (fun _ => 0) 0 109) 1 105) 2 110))) :: T) H := hP
  have hD : va_D A ((h0, .inr (12, fs_65)) :: (q_66, .inl (D.1 13, 6, .inl (upd (fun _ => 0) 0 (-1)))) :: (q_64, .inl (D.1 13, 240, .inl (fun _ => 0))) :: (q_62, .inl (D.1 15, 16, .inr (.inl (fun _ => 0)))) :: (q_60, .inl (D.1 13, 10, .inl (fun _ => 0))) :: (q_58, .inl (D.1 14, 3, .inl (upd (upd (upd (fun _ => 0) 0 109) 1 97) 2 120))) :: (q_56, .inl (D.1 14, 3, .inl (upd (upd (upd (fun _ => 0) 0 109) 1 105) 2 110))) :: T) := hD
  refine lv_dup hx hb dX12_init_851 rfl ?_
  refine lv_iconst (v := 1) hx hb dX12_init_852 (by decide) ?_
  refine lv_iconst (v := (-1)) hx hb dX12_init_853 (by decide) ?_
  refine va_iast hx hb hK hP hD hS 1 0 rfl rfl (z_in (by decide) (by decide)) dX12_init_854 (fun H locs hP hD hS => ?_)
  have hP : va_P D vwCl ((h0, .inr (12, fs_65)) :: (q_66, .inl (D.1 13, 6, .inl (upd (upd (fun _ => 0) 0 (-1)) 1 (-1)))) :: (q_64, .inl (D.1 13, 240, .inl (fun _ => 0))) :: (q_62, .inl (D.1 15, 16, .inr (.inl (fun _ => 0)))) :: (q_60, .inl (D.1 13, 10, .inl (fun _ => 0))) :: (q_58, .inl (D.1 14, 3, .inl (upd (upd (upd (fun _ => 0) 0 109) 1 97) 2 120))) :: (q_56, .inl (D.1 14, 3, .inl (upd (upd (upd (fun _ => 0) 0 109) 1 105) 2 110))) :: T) H := hP
  have hD : va_D A ((h0, .inr (12, fs_65)) :: (q_66, .inl (D.1 13, 6, .inl (upd (upd (fun _ => 0) 0 (-1)) 1 (-1)))) :: (q_64, .inl (D.1 13, 240, .inl (fun _ => 0))) :: (q_62, .inl (D.1 15, 16, .inr (.inl (fun _ => 0)))) :: (q_60, .inl (D.1 13, 10, .inl (fun _ => 0))) :: (q_58, .inl (D.1 14, 3, .inl (upd (upd (upd (fun _ => 0) 0 109) 1 97) 2 120))) :: (q_56, .inl (D.1 14, 3, .inl (upd (upd (upd (fun _ => 0) 0 109) 1 105) 2 110))) :: T) := hD
  refine lv_dup hx hb dX12_init_855 rfl ?_
  refine lv_iconst (v := 2) hx hb dX12_init_856 (by decide) ?_
  refine lv_iconst (v := (-1)) hx hb dX12_init_857 (by decide) ?_
  refine va_iast hx hb hK hP hD hS 1 0 rfl rfl (z_in (by decide) (by decide)) dX12_init_858 (fun H locs hP hD hS => ?_)
  have hP : va_P D vwCl ((h0, .inr (12, fs_65)) :: (q_66, .inl (D.1 13, 6, .inl (upd (upd (upd (fun _ => 0) 0 (-1)) 1 (-1)) 2 (-1)))) :: (q_64, .inl (D.1 13, 240, .inl (fun _ => 0))) :: (q_62, .inl (D.1 15, 16, .inr (.inl (fun _ => 0)))) :: (q_60, .inl (D.1 13, 10, .inl (fun _ => 0))) :: (q_58, .inl (D.1 14, 3, .inl (upd (upd (upd (fun _ => 0) 0 109) 1 97) 2 120))) :: (q_56, .inl (D.1 14, 3, .inl (upd (upd (upd (fun _ => 0) 0 109) 1 105) 2 110))) :: T) H := hP
  have hD : va_D A ((h0, .inr (12, fs_65)) :: (q_66, .inl (D.1 13, 6, .inl (upd (upd (upd (fun _ => 0) 0 (-1)) 1 (-1)) 2 (-1)))) :: (q_64, .inl (D.1 13, 240, .inl (fun _ => 0))) :: (q_62, .inl (D.1 15, 16, .inr (.inl (fun _ => 0)))) :: (q_60, .inl (D.1 13, 10, .inl (fun _ => 0))) :: (q_58, .inl (D.1 14, 3, .inl (upd (upd (upd (fun _ => 0) 0 109) 1 97) 2 120))) :: (q_56, .inl (D.1 14, 3, .inl (upd (upd (upd (fun _ => 0) 0 109) 1 105) 2 110))) :: T) := hD
  refine lv_dup hx hb dX12_init_859 rfl ?_
  refine lv_iconst (v := 3) hx hb dX12_init_860 (by decide) ?_
  refine lv_iconst (v := (-1)) hx hb dX12_init_861 (by decide) ?_
  refine va_iast hx hb hK hP hD hS 1 0 rfl rfl (z_in (by decide) (by decide)) dX12_init_862 (fun H locs hP hD hS => ?_)
  have hP : va_P D vwCl ((h0, .inr (12, fs_65)) :: (q_66, .inl (D.1 13, 6, .inl (upd (upd (upd (upd (fun _ => 0) 0 (-1)) 1 (-1)) 2 (-1)) 3 (-1)))) :: (q_64, .inl (D.1 13, 240, .inl (fun _ => 0))) :: (q_62, .inl (D.1 15, 16, .inr (.inl (fun _ => 0)))) :: (q_60, .inl (D.1 13, 10, .inl (fun _ => 0))) :: (q_58, .inl (D.1 14, 3, .inl (upd (upd (upd (fun _ => 0) 0 109) 1 97) 2 120))) :: (q_56, .inl (D.1 14, 3, .inl (upd (upd (upd (fun _ => 0) 0 109) 1 105) 2 110))) :: T) H := hP
  have hD : va_D A ((h0, .inr (12, fs_65)) :: (q_66, .inl (D.1 13, 6, .inl (upd (upd (upd (upd (fun _ => 0) 0 (-1)) 1 (-1)) 2 (-1)) 3 (-1)))) :: (q_64, .inl (D.1 13, 240, .inl (fun _ => 0))) :: (q_62, .inl (D.1 15, 16, .inr (.inl (fun _ => 0)))) :: (q_60, .inl (D.1 13, 10, .inl (fun _ => 0))) :: (q_58, .inl (D.1 14, 3, .inl (upd (upd (upd (fun _ => 0) 0 109) 1 97) 2 120))) :: (q_56, .inl (D.1 14, 3, .inl (upd (upd (upd (fun _ => 0) 0 109) 1 105) 2 110))) :: T) := hD
  refine lv_dup hx hb dX12_init_863 rfl ?_
  refine lv_iconst (v := 4) hx hb dX12_init_864 (by decide) ?_
  refine lv_iconst (v := (-1)) hx hb dX12_init_865 (by decide) ?_
  refine va_iast hx hb hK hP hD hS 1 0 rfl rfl (z_in (by decide) (by decide)) dX12_init_866 (fun H locs hP hD hS => ?_)
  have hP : va_P D vwCl ((h0, .inr (12, fs_65)) :: (q_66, .inl (D.1 13, 6, .inl (upd (upd (upd (upd (upd (fun _ => 0) 0 (-1)) 1 (-1)) 2 (-1)) 3 (-1)) 4 (-1)))) :: (q_64, .inl (D.1 13, 240, .inl (fun _ => 0))) :: (q_62, .inl (D.1 15, 16, .inr (.inl (fun _ => 0)))) :: (q_60, .inl (D.1 13, 10, .inl (fun _ => 0))) :: (q_58, .inl (D.1 14, 3, .inl (upd (upd (upd (fun _ => 0) 0 109) 1 97) 2 120))) :: (q_56, .inl (D.1 14, 3, .inl (upd (upd (upd (fun _ => 0) 0 109) 1 105) 2 110))) :: T) H := hP
  have hD : va_D A ((h0, .inr (12, fs_65)) :: (q_66, .inl (D.1 13, 6, .inl (upd (upd (upd (upd (upd (fun _ => 0) 0 (-1)) 1 (-1)) 2 (-1)) 3 (-1)) 4 (-1)))) :: (q_64, .inl (D.1 13, 240, .inl (fun _ => 0))) :: (q_62, .inl (D.1 15, 16, .inr (.inl (fun _ => 0)))) :: (q_60, .inl (D.1 13, 10, .inl (fun _ => 0))) :: (q_58, .inl (D.1 14, 3, .inl (upd (upd (upd (fun _ => 0) 0 109) 1 97) 2 120))) :: (q_56, .inl (D.1 14, 3, .inl (upd (upd (upd (fun _ => 0) 0 109) 1 105) 2 110))) :: T) := hD
  refine lv_dup hx hb dX12_init_867 rfl ?_
  refine lv_iconst (v := 5) hx hb dX12_init_868 (by decide) ?_
  refine lv_iconst (v := (-1)) hx hb dX12_init_869 (by decide) ?_
  refine va_iast hx hb hK hP hD hS 1 0 rfl rfl (z_in (by decide) (by decide)) dX12_init_870 (fun H locs hP hD hS => ?_)
  have hP : va_P D vwCl ((h0, .inr (12, fs_65)) :: (q_66, .inl (D.1 13, 6, .inl (upd (upd (upd (upd (upd (upd (fun _ => 0) 0 (-1)) 1 (-1)) 2 (-1)) 3 (-1)) 4 (-1)) 5 (-1)))) :: (q_64, .inl (D.1 13, 240, .inl (fun _ => 0))) :: (q_62, .inl (D.1 15, 16, .inr (.inl (fun _ => 0)))) :: (q_60, .inl (D.1 13, 10, .inl (fun _ => 0))) :: (q_58, .inl (D.1 14, 3, .inl (upd (upd (upd (fun _ => 0) 0 109) 1 97) 2 120))) :: (q_56, .inl (D.1 14, 3, .inl (upd (upd (upd (fun _ => 0) 0 109) 1 105) 2 110))) :: T) H := hP
  have hD : va_D A ((h0, .inr (12, fs_65)) :: (q_66, .inl (D.1 13, 6, .inl (upd (upd (upd (upd (upd (upd (fun _ => 0) 0 (-1)) 1 (-1)) 2 (-1)) 3 (-1)) 4 (-1)) 5 (-1)))) :: (q_64, .inl (D.1 13, 240, .inl (fun _ => 0))) :: (q_62, .inl (D.1 15, 16, .inr (.inl (fun _ => 0)))) :: (q_60, .inl (D.1 13, 10, .inl (fun _ => 0))) :: (q_58, .inl (D.1 14, 3, .inl (upd (upd (upd (fun _ => 0) 0 109) 1 97) 2 120))) :: (q_56, .inl (D.1 14, 3, .inl (upd (upd (upd (fun _ => 0) 0 109) 1 105) 2 110))) :: T) := hD
  refine va_putF (D := D) (ci := 12) (v := .ref q_66) (ty := .array .int) (C := RX12) (T := TX12) (N := 116) hx hb ht inX12 tyX12 tyX12_ok nmX12 hown hK hP hD hS 0 rfl rfl 42 (by decide) (ht (.fieldLink RX12 112 "CloneVolumesModel" "codeFrom" "[I") fl_X12_112) (fun _ h9 => h9) rfl hin rfl (by decide +kernel) rfl rfl (by rw [hlen]; decide) dX12_init_871 (fun H locs hP hD hS => ?_)
  have hP : va_P D vwCl ((h0, .inr (12, (fs_65.set 42 (.ref q_66)))) :: (q_66, .inl (D.1 13, 6, .inl (upd (upd (upd (upd (upd (upd (fun _ => 0) 0 (-1)) 1 (-1)) 2 (-1)) 3 (-1)) 4 (-1)) 5 (-1)))) :: (q_64, .inl (D.1 13, 240, .inl (fun _ => 0))) :: (q_62, .inl (D.1 15, 16, .inr (.inl (fun _ => 0)))) :: (q_60, .inl (D.1 13, 10, .inl (fun _ => 0))) :: (q_58, .inl (D.1 14, 3, .inl (upd (upd (upd (fun _ => 0) 0 109) 1 97) 2 120))) :: (q_56, .inl (D.1 14, 3, .inl (upd (upd (upd (fun _ => 0) 0 109) 1 105) 2 110))) :: T) H := hP
  have hD : va_D A ((h0, .inr (12, (fs_65.set 42 (.ref q_66)))) :: (q_66, .inl (D.1 13, 6, .inl (upd (upd (upd (upd (upd (upd (fun _ => 0) 0 (-1)) 1 (-1)) 2 (-1)) 3 (-1)) 4 (-1)) 5 (-1)))) :: (q_64, .inl (D.1 13, 240, .inl (fun _ => 0))) :: (q_62, .inl (D.1 15, 16, .inr (.inl (fun _ => 0)))) :: (q_60, .inl (D.1 13, 10, .inl (fun _ => 0))) :: (q_58, .inl (D.1 14, 3, .inl (upd (upd (upd (fun _ => 0) 0 109) 1 97) 2 120))) :: (q_56, .inl (D.1 14, 3, .inl (upd (upd (upd (fun _ => 0) 0 109) 1 105) 2 110))) :: T) := hD
  generalize hfs_67 : fs_65.set 42 (.ref q_66) = fs_67 at hP hD
  have hlen : fs_67.length = 116 := by rw [← hfs_67, List.length_set]; exact hlen
  have hP : va_P D vwCl ((h0, .inr (12, fs_67)) :: (q_66, .inl (D.1 13, 6, .inl (upd (upd (upd (upd (upd (upd (fun _ => 0) 0 (-1)) 1 (-1)) 2 (-1)) 3 (-1)) 4 (-1)) 5 (-1)))) :: (q_64, .inl (D.1 13, 240, .inl (fun _ => 0))) :: (q_62, .inl (D.1 15, 16, .inr (.inl (fun _ => 0)))) :: (q_60, .inl (D.1 13, 10, .inl (fun _ => 0))) :: (q_58, .inl (D.1 14, 3, .inl (upd (upd (upd (fun _ => 0) 0 109) 1 97) 2 120))) :: (q_56, .inl (D.1 14, 3, .inl (upd (upd (upd (fun _ => 0) 0 109) 1 105) 2 110))) :: T) H := hP
  have hD : va_D A ((h0, .inr (12, fs_67)) :: (q_66, .inl (D.1 13, 6, .inl (upd (upd (upd (upd (upd (upd (fun _ => 0) 0 (-1)) 1 (-1)) 2 (-1)) 3 (-1)) 4 (-1)) 5 (-1)))) :: (q_64, .inl (D.1 13, 240, .inl (fun _ => 0))) :: (q_62, .inl (D.1 15, 16, .inr (.inl (fun _ => 0)))) :: (q_60, .inl (D.1 13, 10, .inl (fun _ => 0))) :: (q_58, .inl (D.1 14, 3, .inl (upd (upd (upd (fun _ => 0) 0 109) 1 97) 2 120))) :: (q_56, .inl (D.1 14, 3, .inl (upd (upd (upd (fun _ => 0) 0 109) 1 105) 2 110))) :: T) := hD
  exact kk q_66 q_64 q_62 q_60 q_58 q_56 fs_67 _ _ (by rw [← hfs_67, ← hfs_65, ← hfs_63, ← hfs_61, ← hfs_59, ← hfs_57]) hP hD hS
