theorem dL_law_398 : decode cL_law 398 = .ok (.ifCond .ge 7, 3) := by decide +kernel
theorem dL_law_401 : decode cL_law 401 = .ok (.iconst 1, 1) := by decide +kernel
theorem dL_law_402 : decode cL_law 402 = .ok (.goto 4, 3) := by decide +kernel
theorem dL_law_405 : decode cL_law 405 = .ok (.iconst 0, 1) := by decide +kernel
theorem dL_law_406 : decode cL_law 406 = .ok (.aload 8, 2) := by decide +kernel
theorem dL_law_408 : decode cL_law 408 = .ok (.iload 7, 2) := by decide +kernel
theorem dL_law_410 : decode cL_law 410 = .ok (.aaload, 1) := by decide +kernel
theorem dL_law_411 : decode cL_law 411 = .ok (.iconst 2, 1) := by decide +kernel
theorem dL_law_412 : decode cL_law 412 = .ok (.iaload, 1) := by decide +kernel
theorem dL_law_413 : decode cL_law 413 = .ok (.ifCond .ne 7, 3) := by decide +kernel
theorem dL_law_416 : decode cL_law 416 = .ok (.iconst 1, 1) := by decide +kernel
theorem dL_law_417 : decode cL_law 417 = .ok (.goto 4, 3) := by decide +kernel
theorem dL_law_420 : decode cL_law 420 = .ok (.iconst 0, 1) := by decide +kernel
theorem dL_law_421 : decode cL_law 421 = .ok (.if_icmp .eq 5, 3) := by decide +kernel
theorem dL_law_424 : decode cL_law 424 = .ok (.iconst 0, 1) := by decide +kernel
theorem dL_law_425 : decode cL_law 425 = .ok (.ireturn, 1) := by decide +kernel
theorem dL_law_426 : decode cL_law 426 = .ok (.aload_n 1, 1) := by decide +kernel
theorem dL_law_427 : decode cL_law 427 = .ok (.iconst 5, 1) := by decide +kernel
theorem dL_law_428 : decode cL_law 428 = .ok (.invokevirtual 32, 3) := by decide +kernel
theorem dL_law_431 : decode cL_law 431 = .ok (.istore 20, 2) := by decide +kernel
theorem dL_law_433 : decode cL_law 433 = .ok (.aload_n 1, 1) := by decide +kernel
theorem dL_law_434 : decode cL_law 434 = .ok (.iconst 1, 1) := by decide +kernel
theorem dL_law_435 : decode cL_law 435 = .ok (.invokevirtual 51, 3) := by decide +kernel
theorem dL_law_438 : decode cL_law 438 = .ok (.iload 20, 2) := by decide +kernel
theorem dL_law_440 : decode cL_law 440 = .ok (.iload 16, 2) := by decide +kernel
theorem dL_law_442 : decode cL_law 442 = .ok (.isub, 1) := by decide +kernel
theorem dL_law_443 : decode cL_law 443 = .ok (.if_icmp .ne 32, 3) := by decide +kernel
theorem dL_law_446 : decode cL_law 446 = .ok (.aload_n 1, 1) := by decide +kernel
theorem dL_law_447 : decode cL_law 447 = .ok (.iconst 5, 1) := by decide +kernel
theorem dL_law_448 : decode cL_law 448 = .ok (.invokevirtual 32, 3) := by decide +kernel
theorem dL_law_451 : decode cL_law 451 = .ok (.iload 16, 2) := by decide +kernel
theorem dL_law_453 : decode cL_law 453 = .ok (.if_icmp .ne 22, 3) := by decide +kernel
theorem dL_law_456 : decode cL_law 456 = .ok (.aload_n 1, 1) := by decide +kernel
theorem dL_law_457 : decode cL_law 457 = .ok (.invokevirtual 87, 3) := by decide +kernel
theorem dL_law_460 : decode cL_law 460 = .ok (.iload 18, 2) := by decide +kernel
theorem dL_law_462 : decode cL_law 462 = .ok (.if_icmp .ne 13, 3) := by decide +kernel
theorem dL_law_465 : decode cL_law 465 = .ok (.aload_n 1, 1) := by decide +kernel
theorem dL_law_466 : decode cL_law 466 = .ok (.iconst 1, 1) := by decide +kernel
theorem dL_law_467 : decode cL_law 467 = .ok (.invokevirtual 32, 3) := by decide +kernel
theorem dL_law_470 : decode cL_law 470 = .ok (.iload 11, 2) := by decide +kernel
theorem dL_law_472 : decode cL_law 472 = .ok (.if_icmp .eq 5, 3) := by decide +kernel
theorem dL_law_475 : decode cL_law 475 = .ok (.iconst 0, 1) := by decide +kernel
theorem dL_law_476 : decode cL_law 476 = .ok (.ireturn, 1) := by decide +kernel
theorem dL_law_477 : decode cL_law 477 = .ok (.iconst 0, 1) := by decide +kernel
theorem dL_law_478 : decode cL_law 478 = .ok (.istore 21, 2) := by decide +kernel
theorem dL_law_480 : decode cL_law 480 = .ok (.iconst 0, 1) := by decide +kernel
theorem dL_law_481 : decode cL_law 481 = .ok (.istore 22, 2) := by decide +kernel
theorem dL_law_483 : decode cL_law 483 = .ok (.iconst 0, 1) := by decide +kernel
theorem dL_law_484 : decode cL_law 484 = .ok (.istore 23, 2) := by decide +kernel
theorem dL_law_486 : decode cL_law 486 = .ok (.iconst 0, 1) := by decide +kernel
theorem dL_law_487 : decode cL_law 487 = .ok (.istore 24, 2) := by decide +kernel
theorem dL_law_489 : decode cL_law 489 = .ok (.iload 24, 2) := by decide +kernel
theorem dL_law_491 : decode cL_law 491 = .ok (.iload_n 2, 1) := by decide +kernel
theorem dL_law_492 : decode cL_law 492 = .ok (.if_icmp .ge 393, 3) := by decide +kernel
theorem dL_law_495 : decode cL_law 495 = .ok (.aload_n 1, 1) := by decide +kernel
theorem dL_law_496 : decode cL_law 496 = .ok (.iload 24, 2) := by decide +kernel
theorem dL_law_498 : decode cL_law 498 = .ok (.iconst 0, 1) := by decide +kernel
theorem dL_law_499 : decode cL_law 499 = .ok (.invokevirtual 69, 3) := by decide +kernel
theorem dL_law_502 : decode cL_law 502 = .ok (.istore 25, 2) := by decide +kernel
theorem dL_law_504 : decode cL_law 504 = .ok (.aload_n 1, 1) := by decide +kernel
theorem dL_law_505 : decode cL_law 505 = .ok (.iload 24, 2) := by decide +kernel
theorem dL_law_507 : decode cL_law 507 = .ok (.iconst 1, 1) := by decide +kernel
theorem dL_law_508 : decode cL_law 508 = .ok (.invokevirtual 69, 3) := by decide +kernel
theorem dL_law_511 : decode cL_law 511 = .ok (.istore 26, 2) := by decide +kernel
theorem dL_law_513 : decode cL_law 513 = .ok (.iload 25, 2) := by decide +kernel
theorem dL_law_515 : decode cL_law 515 = .ok (.aload 8, 2) := by decide +kernel
theorem dL_law_517 : decode cL_law 517 = .ok (.iload 24, 2) := by decide +kernel
theorem dL_law_519 : decode cL_law 519 = .ok (.aaload, 1) := by decide +kernel
theorem dL_law_520 : decode cL_law 520 = .ok (.iconst 0, 1) := by decide +kernel
theorem dL_law_521 : decode cL_law 521 = .ok (.iaload, 1) := by decide +kernel
theorem dL_law_522 : decode cL_law 522 = .ok (.isub, 1) := by decide +kernel
theorem dL_law_523 : decode cL_law 523 = .ok (.invokestatic 94, 3) := by decide +kernel
theorem dL_law_526 : decode cL_law 526 = .ok (.iload 26, 2) := by decide +kernel
theorem dL_law_528 : decode cL_law 528 = .ok (.aload 8, 2) := by decide +kernel
theorem dL_law_530 : decode cL_law 530 = .ok (.iload 24, 2) := by decide +kernel
theorem dL_law_532 : decode cL_law 532 = .ok (.aaload, 1) := by decide +kernel
theorem dL_law_533 : decode cL_law 533 = .ok (.iconst 1, 1) := by decide +kernel
theorem dL_law_534 : decode cL_law 534 = .ok (.iaload, 1) := by decide +kernel
theorem dL_law_535 : decode cL_law 535 = .ok (.isub, 1) := by decide +kernel
theorem dL_law_536 : decode cL_law 536 = .ok (.invokestatic 94, 3) := by decide +kernel
theorem dL_law_539 : decode cL_law 539 = .ok (.iadd, 1) := by decide +kernel
theorem dL_law_540 : decode cL_law 540 = .ok (.istore 27, 2) := by decide +kernel
theorem dL_law_542 : decode cL_law 542 = .ok (.aload 8, 2) := by decide +kernel
theorem dL_law_544 : decode cL_law 544 = .ok (.iload 24, 2) := by decide +kernel
theorem dL_law_546 : decode cL_law 546 = .ok (.aaload, 1) := by decide +kernel
theorem dL_law_547 : decode cL_law 547 = .ok (.iconst 2, 1) := by decide +kernel
theorem dL_law_548 : decode cL_law 548 = .ok (.iaload, 1) := by decide +kernel
theorem dL_law_549 : decode cL_law 549 = .ok (.ifCond .le 17, 3) := by decide +kernel
theorem dL_law_552 : decode cL_law 552 = .ok (.aload 8, 2) := by decide +kernel
theorem dL_law_554 : decode cL_law 554 = .ok (.iload 24, 2) := by decide +kernel
theorem dL_law_556 : decode cL_law 556 = .ok (.aaload, 1) := by decide +kernel
theorem dL_law_557 : decode cL_law 557 = .ok (.iconst 4, 1) := by decide +kernel
theorem dL_law_558 : decode cL_law 558 = .ok (.iaload, 1) := by decide +kernel
theorem dL_law_559 : decode cL_law 559 = .ok (.ifCond .le 7, 3) := by decide +kernel
theorem dL_law_562 : decode cL_law 562 = .ok (.iconst 1, 1) := by decide +kernel
theorem dL_law_563 : decode cL_law 563 = .ok (.goto 4, 3) := by decide +kernel
theorem dL_law_566 : decode cL_law 566 = .ok (.iconst 0, 1) := by decide +kernel
theorem dL_law_567 : decode cL_law 567 = .ok (.istore 28, 2) := by decide +kernel
theorem dL_law_569 : decode cL_law 569 = .ok (.aload_n 1, 1) := by decide +kernel
theorem dL_law_570 : decode cL_law 570 = .ok (.iload 24, 2) := by decide +kernel
theorem dL_law_572 : decode cL_law 572 = .ok (.bipush 6, 2) := by decide +kernel
theorem dL_law_574 : decode cL_law 574 = .ok (.invokevirtual 69, 3) := by decide +kernel
theorem dL_law_577 : decode cL_law 577 = .ok (.aload 8, 2) := by decide +kernel
theorem dL_law_579 : decode cL_law 579 = .ok (.iload 24, 2) := by decide +kernel
theorem dL_law_581 : decode cL_law 581 = .ok (.aaload, 1) := by decide +kernel
theorem dL_law_582 : decode cL_law 582 = .ok (.bipush 6, 2) := by decide +kernel
theorem dL_law_584 : decode cL_law 584 = .ok (.iaload, 1) := by decide +kernel
theorem dL_law_585 : decode cL_law 585 = .ok (.if_icmp .le 7, 3) := by decide +kernel
theorem dL_law_588 : decode cL_law 588 = .ok (.iconst 1, 1) := by decide +kernel
theorem dL_law_589 : decode cL_law 589 = .ok (.goto 4, 3) := by decide +kernel
theorem dL_law_592 : decode cL_law 592 = .ok (.iconst 0, 1) := by decide +kernel
theorem dL_law_593 : decode cL_law 593 = .ok (.istore 29, 2) := by decide +kernel
theorem dL_law_595 : decode cL_law 595 = .ok (.aload 8, 2) := by decide +kernel
theorem dL_law_597 : decode cL_law 597 = .ok (.iload 24, 2) := by decide +kernel
theorem dL_law_599 : decode cL_law 599 = .ok (.aaload, 1) := by decide +kernel
theorem dL_law_600 : decode cL_law 600 = .ok (.iconst 5, 1) := by decide +kernel
theorem dL_law_601 : decode cL_law 601 = .ok (.iaload, 1) := by decide +kernel
theorem dL_law_602 : decode cL_law 602 = .ok (.iconst 4, 1) := by decide +kernel
theorem dL_law_603 : decode cL_law 603 = .ok (.idiv, 1) := by decide +kernel
theorem dL_law_604 : decode cL_law 604 = .ok (.istore 30, 2) := by decide +kernel
theorem dL_law_606 : decode cL_law 606 = .ok (.iload 27, 2) := by decide +kernel
theorem dL_law_608 : decode cL_law 608 = .ok (.iconst 1, 1) := by decide +kernel
theorem dL_law_609 : decode cL_law 609 = .ok (.if_icmp .gt 149, 3) := by decide +kernel
theorem dL_law_612 : decode cL_law 612 = .ok (.iload 27, 2) := by decide +kernel
theorem dL_law_614 : decode cL_law 614 = .ok (.iconst 1, 1) := by decide +kernel
theorem dL_law_615 : decode cL_law 615 = .ok (.if_icmp .ne 7, 3) := by decide +kernel
theorem dL_law_618 : decode cL_law 618 = .ok (.iconst 1, 1) := by decide +kernel
theorem dL_law_619 : decode cL_law 619 = .ok (.goto 4, 3) := by decide +kernel
theorem dL_law_622 : decode cL_law 622 = .ok (.iconst 0, 1) := by decide +kernel
theorem dL_law_623 : decode cL_law 623 = .ok (.iload 28, 2) := by decide +kernel
theorem dL_law_625 : decode cL_law 625 = .ok (.ifCond .eq 17, 3) := by decide +kernel
theorem dL_law_628 : decode cL_law 628 = .ok (.iload 29, 2) := by decide +kernel
theorem dL_law_630 : decode cL_law 630 = .ok (.ifCond .ne 12, 3) := by decide +kernel
theorem dL_law_633 : decode cL_law 633 = .ok (.iload 30, 2) := by decide +kernel
theorem dL_law_635 : decode cL_law 635 = .ok (.ifCond .ne 7, 3) := by decide +kernel
theorem dL_law_638 : decode cL_law 638 = .ok (.iconst 1, 1) := by decide +kernel
theorem dL_law_639 : decode cL_law 639 = .ok (.goto 4, 3) := by decide +kernel
theorem dL_law_642 : decode cL_law 642 = .ok (.iconst 0, 1) := by decide +kernel
theorem dL_law_643 : decode cL_law 643 = .ok (.if_icmp .ne 115, 3) := by decide +kernel
theorem dL_law_646 : decode cL_law 646 = .ok (.aload_n 1, 1) := by decide +kernel
theorem dL_law_647 : decode cL_law 647 = .ok (.iload 24, 2) := by decide +kernel
theorem dL_law_649 : decode cL_law 649 = .ok (.iconst 4, 1) := by decide +kernel
theorem dL_law_650 : decode cL_law 650 = .ok (.invokevirtual 69, 3) := by decide +kernel
theorem dL_law_653 : decode cL_law 653 = .ok (.aload 8, 2) := by decide +kernel
theorem dL_law_655 : decode cL_law 655 = .ok (.iload 24, 2) := by decide +kernel
theorem dL_law_657 : decode cL_law 657 = .ok (.aaload, 1) := by decide +kernel
theorem dL_law_658 : decode cL_law 658 = .ok (.iconst 4, 1) := by decide +kernel
theorem dL_law_659 : decode cL_law 659 = .ok (.iaload, 1) := by decide +kernel
theorem dL_law_660 : decode cL_law 660 = .ok (.iload 28, 2) := by decide +kernel
theorem dL_law_662 : decode cL_law 662 = .ok (.ifCond .eq 7, 3) := by decide +kernel
theorem dL_law_665 : decode cL_law 665 = .ok (.iconst 1, 1) := by decide +kernel
theorem dL_law_666 : decode cL_law 666 = .ok (.goto 4, 3) := by decide +kernel
theorem dL_law_669 : decode cL_law 669 = .ok (.iconst 0, 1) := by decide +kernel
theorem dL_law_670 : decode cL_law 670 = .ok (.isub, 1) := by decide +kernel
theorem dL_law_671 : decode cL_law 671 = .ok (.if_icmp .ne 87, 3) := by decide +kernel
theorem dL_law_674 : decode cL_law 674 = .ok (.aload_n 1, 1) := by decide +kernel
theorem dL_law_675 : decode cL_law 675 = .ok (.iload 24, 2) := by decide +kernel
theorem dL_law_677 : decode cL_law 677 = .ok (.iconst 3, 1) := by decide +kernel
theorem dL_law_678 : decode cL_law 678 = .ok (.invokevirtual 69, 3) := by decide +kernel
theorem dL_law_681 : decode cL_law 681 = .ok (.aload 8, 2) := by decide +kernel
theorem dL_law_683 : decode cL_law 683 = .ok (.iload 24, 2) := by decide +kernel
theorem dL_law_685 : decode cL_law 685 = .ok (.aaload, 1) := by decide +kernel
theorem dL_law_686 : decode cL_law 686 = .ok (.iconst 3, 1) := by decide +kernel
theorem dL_law_687 : decode cL_law 687 = .ok (.iaload, 1) := by decide +kernel
theorem dL_law_688 : decode cL_law 688 = .ok (.if_icmp .ne 70, 3) := by decide +kernel
theorem dL_law_691 : decode cL_law 691 = .ok (.iload 29, 2) := by decide +kernel
theorem dL_law_693 : decode cL_law 693 = .ok (.ifCond .eq 8, 3) := by decide +kernel
theorem dL_law_696 : decode cL_law 696 = .ok (.iload 28, 2) := by decide +kernel
theorem dL_law_698 : decode cL_law 698 = .ok (.ifCond .eq 60, 3) := by decide +kernel
theorem dL_law_701 : decode cL_law 701 = .ok (.aload_n 1, 1) := by decide +kernel
theorem dL_law_702 : decode cL_law 702 = .ok (.iload 24, 2) := by decide +kernel
theorem dL_law_704 : decode cL_law 704 = .ok (.bipush 6, 2) := by decide +kernel
theorem dL_law_706 : decode cL_law 706 = .ok (.invokevirtual 69, 3) := by decide +kernel
theorem dL_law_709 : decode cL_law 709 = .ok (.aload 8, 2) := by decide +kernel
theorem dL_law_711 : decode cL_law 711 = .ok (.iload 24, 2) := by decide +kernel
theorem dL_law_713 : decode cL_law 713 = .ok (.aaload, 1) := by decide +kernel
theorem dL_law_714 : decode cL_law 714 = .ok (.bipush 6, 2) := by decide +kernel
theorem dL_law_716 : decode cL_law 716 = .ok (.iaload, 1) := by decide +kernel
theorem dL_law_717 : decode cL_law 717 = .ok (.iconst 1, 1) := by decide +kernel
theorem dL_law_718 : decode cL_law 718 = .ok (.iadd, 1) := by decide +kernel
theorem dL_law_719 : decode cL_law 719 = .ok (.if_icmp .gt 39, 3) := by decide +kernel
theorem dL_law_722 : decode cL_law 722 = .ok (.aload_n 1, 1) := by decide +kernel
theorem dL_law_723 : decode cL_law 723 = .ok (.iload 24, 2) := by decide +kernel
theorem dL_law_725 : decode cL_law 725 = .ok (.iconst 2, 1) := by decide +kernel
theorem dL_law_726 : decode cL_law 726 = .ok (.invokevirtual 69, 3) := by decide +kernel
theorem dL_law_729 : decode cL_law 729 = .ok (.iconst 0, 1) := by decide +kernel
theorem dL_law_730 : decode cL_law 730 = .ok (.aload 8, 2) := by decide +kernel
theorem dL_law_732 : decode cL_law 732 = .ok (.iload 24, 2) := by decide +kernel
theorem dL_law_734 : decode cL_law 734 = .ok (.aaload, 1) := by decide +kernel
theorem dL_law_735 : decode cL_law 735 = .ok (.iconst 2, 1) := by decide +kernel
theorem dL_law_736 : decode cL_law 736 = .ok (.iaload, 1) := by decide +kernel
theorem dL_law_737 : decode cL_law 737 = .ok (.aload_n 1, 1) := by decide +kernel
theorem dL_law_738 : decode cL_law 738 = .ok (.iload 24, 2) := by decide +kernel
theorem dL_law_740 : decode cL_law 740 = .ok (.iload_n 3, 1) := by decide +kernel
theorem dL_law_741 : decode cL_law 741 = .ok (.aload 8, 2) := by decide +kernel
theorem dL_law_743 : decode cL_law 743 = .ok (.iload 24, 2) := by decide +kernel
theorem dL_law_745 : decode cL_law 745 = .ok (.aaload, 1) := by decide +kernel
theorem dL_law_746 : decode cL_law 746 = .ok (.iconst 2, 1) := by decide +kernel
theorem dL_law_747 : decode cL_law 747 = .ok (.iaload, 1) := by decide +kernel
theorem dL_law_748 : decode cL_law 748 = .ok (.invokestatic 99, 3) := by decide +kernel
theorem dL_law_751 : decode cL_law 751 = .ok (.isub, 1) := by decide +kernel
theorem dL_law_752 : decode cL_law 752 = .ok (.invokestatic 102, 3) := by decide +kernel
theorem dL_law_755 : decode cL_law 755 = .ok (.if_icmp .eq 5, 3) := by decide +kernel
theorem dL_law_758 : decode cL_law 758 = .ok (.iconst 0, 1) := by decide +kernel
theorem dL_law_759 : decode cL_law 759 = .ok (.ireturn, 1) := by decide +kernel
theorem dL_law_760 : decode cL_law 760 = .ok (.aload 8, 2) := by decide +kernel
theorem dL_law_762 : decode cL_law 762 = .ok (.iload 24, 2) := by decide +kernel
theorem dL_law_764 : decode cL_law 764 = .ok (.aaload, 1) := by decide +kernel
theorem dL_law_765 : decode cL_law 765 = .ok (.iconst 2, 1) := by decide +kernel
theorem dL_law_766 : decode cL_law 766 = .ok (.iaload, 1) := by decide +kernel
theorem dL_law_767 : decode cL_law 767 = .ok (.ifCond .le 16, 3) := by decide +kernel
theorem dL_law_770 : decode cL_law 770 = .ok (.aload_n 1, 1) := by decide +kernel
theorem dL_law_771 : decode cL_law 771 = .ok (.iload 25, 2) := by decide +kernel
theorem dL_law_773 : decode cL_law 773 = .ok (.iload 26, 2) := by decide +kernel
theorem dL_law_775 : decode cL_law 775 = .ok (.invokevirtual 22, 3) := by decide +kernel
theorem dL_law_778 : decode cL_law 778 = .ok (.ifCond .eq 5, 3) := by decide +kernel
theorem dL_law_781 : decode cL_law 781 = .ok (.iconst 0, 1) := by decide +kernel
theorem dL_law_782 : decode cL_law 782 = .ok (.ireturn, 1) := by decide +kernel
theorem dL_law_783 : decode cL_law 783 = .ok (.iload 23, 2) := by decide +kernel
theorem dL_law_785 : decode cL_law 785 = .ok (.iload 29, 2) := by decide +kernel
theorem dL_law_787 : decode cL_law 787 = .ok (.ifCond .eq 7, 3) := by decide +kernel
theorem dL_law_790 : decode cL_law 790 = .ok (.iconst 1, 1) := by decide +kernel
theorem dL_law_791 : decode cL_law 791 = .ok (.goto 4, 3) := by decide +kernel
theorem dL_law_794 : decode cL_law 794 = .ok (.iconst 0, 1) := by decide +kernel
theorem dL_law_795 : decode cL_law 795 = .ok (.iadd, 1) := by decide +kernel
theorem dL_law_796 : decode cL_law 796 = .ok (.istore 23, 2) := by decide +kernel
theorem dL_law_798 : decode cL_law 798 = .ok (.iload 21, 2) := by decide +kernel
theorem dL_law_800 : decode cL_law 800 = .ok (.iload 28, 2) := by decide +kernel
theorem dL_law_802 : decode cL_law 802 = .ok (.ifCond .eq 18, 3) := by decide +kernel
theorem dL_law_805 : decode cL_law 805 = .ok (.iload 29, 2) := by decide +kernel
theorem dL_law_807 : decode cL_law 807 = .ok (.ifCond .ne 13, 3) := by decide +kernel
theorem dL_law_810 : decode cL_law 810 = .ok (.iload 30, 2) := by decide +kernel
theorem dL_law_812 : decode cL_law 812 = .ok (.iconst 1, 1) := by decide +kernel
theorem dL_law_813 : decode cL_law 813 = .ok (.if_icmp .ne 7, 3) := by decide +kernel
theorem dL_law_816 : decode cL_law 816 = .ok (.iconst 1, 1) := by decide +kernel
theorem dL_law_817 : decode cL_law 817 = .ok (.goto 4, 3) := by decide +kernel
theorem dL_law_820 : decode cL_law 820 = .ok (.iconst 0, 1) := by decide +kernel
theorem dL_law_821 : decode cL_law 821 = .ok (.iadd, 1) := by decide +kernel
theorem dL_law_822 : decode cL_law 822 = .ok (.istore 21, 2) := by decide +kernel
theorem dL_law_824 : decode cL_law 824 = .ok (.iload 22, 2) := by decide +kernel
theorem dL_law_826 : decode cL_law 826 = .ok (.iload 28, 2) := by decide +kernel
theorem dL_law_828 : decode cL_law 828 = .ok (.ifCond .eq 18, 3) := by decide +kernel
theorem dL_law_831 : decode cL_law 831 = .ok (.iload 29, 2) := by decide +kernel
theorem dL_law_833 : decode cL_law 833 = .ok (.ifCond .ne 13, 3) := by decide +kernel
theorem dL_law_836 : decode cL_law 836 = .ok (.iload 30, 2) := by decide +kernel
theorem dL_law_838 : decode cL_law 838 = .ok (.iconst 2, 1) := by decide +kernel
theorem dL_law_839 : decode cL_law 839 = .ok (.if_icmp .ne 7, 3) := by decide +kernel
theorem dL_law_842 : decode cL_law 842 = .ok (.iconst 1, 1) := by decide +kernel
theorem dL_law_843 : decode cL_law 843 = .ok (.goto 4, 3) := by decide +kernel
theorem dL_law_846 : decode cL_law 846 = .ok (.iconst 0, 1) := by decide +kernel
theorem dL_law_847 : decode cL_law 847 = .ok (.iadd, 1) := by decide +kernel
theorem dL_law_848 : decode cL_law 848 = .ok (.istore 22, 2) := by decide +kernel
theorem dL_law_850 : decode cL_law 850 = .ok (.iload 30, 2) := by decide +kernel
theorem dL_law_852 : decode cL_law 852 = .ok (.iconst 1, 1) := by decide +kernel
theorem dL_law_853 : decode cL_law 853 = .ok (.if_icmp .ne 26, 3) := by decide +kernel
theorem dL_law_856 : decode cL_law 856 = .ok (.iload 28, 2) := by decide +kernel
theorem dL_law_858 : decode cL_law 858 = .ok (.ifCond .eq 21, 3) := by decide +kernel
theorem dL_law_861 : decode cL_law 861 = .ok (.iload 29, 2) := by decide +kernel
theorem dL_law_863 : decode cL_law 863 = .ok (.ifCond .ne 16, 3) := by decide +kernel
theorem dL_law_866 : decode cL_law 866 = .ok (.aload 8, 2) := by decide +kernel
theorem dL_law_868 : decode cL_law 868 = .ok (.iload 24, 2) := by decide +kernel
theorem dL_law_870 : decode cL_law 870 = .ok (.aaload, 1) := by decide +kernel
theorem dL_law_871 : decode cL_law 871 = .ok (.iconst 2, 1) := by decide +kernel
theorem dL_law_872 : decode cL_law 872 = .ok (.iaload, 1) := by decide +kernel
theorem dL_law_873 : decode cL_law 873 = .ok (.iconst 3, 1) := by decide +kernel
theorem dL_law_874 : decode cL_law 874 = .ok (.if_icmp .ge 5, 3) := by decide +kernel
theorem dL_law_877 : decode cL_law 877 = .ok (.iconst 0, 1) := by decide +kernel
theorem dL_law_878 : decode cL_law 878 = .ok (.ireturn, 1) := by decide +kernel
theorem dL_law_879 : decode cL_law 879 = .ok (.iinc 24 1, 3) := by decide +kernel
theorem dL_law_882 : decode cL_law 882 = .ok (.goto (-393), 3) := by decide +kernel
theorem dL_law_885 : decode cL_law 885 = .ok (.aload_n 1, 1) := by decide +kernel
theorem dL_law_886 : decode cL_law 886 = .ok (.bipush 7, 2) := by decide +kernel
theorem dL_law_888 : decode cL_law 888 = .ok (.invokevirtual 32, 3) := by decide +kernel
theorem dL_law_891 : decode cL_law 891 = .ok (.iload 13, 2) := by decide +kernel
theorem dL_law_893 : decode cL_law 893 = .ok (.iload 23, 2) := by decide +kernel
theorem dL_law_895 : decode cL_law 895 = .ok (.iadd, 1) := by decide +kernel
theorem dL_law_896 : decode cL_law 896 = .ok (.if_icmp .ne 19, 3) := by decide +kernel
theorem dL_law_899 : decode cL_law 899 = .ok (.aload_n 1, 1) := by decide +kernel
theorem dL_law_900 : decode cL_law 900 = .ok (.iconst 2, 1) := by decide +kernel
theorem dL_law_901 : decode cL_law 901 = .ok (.invokevirtual 32, 3) := by decide +kernel
theorem dL_law_904 : decode cL_law 904 = .ok (.iload 12, 2) := by decide +kernel
theorem dL_law_906 : decode cL_law 906 = .ok (.iload 21, 2) := by decide +kernel
theorem dL_law_908 : decode cL_law 908 = .ok (.iadd, 1) := by decide +kernel
theorem dL_law_909 : decode cL_law 909 = .ok (.iload 22, 2) := by decide +kernel
theorem dL_law_911 : decode cL_law 911 = .ok (.isub, 1) := by decide +kernel
theorem dL_law_912 : decode cL_law 912 = .ok (.if_icmp .eq 5, 3) := by decide +kernel
theorem dL_law_915 : decode cL_law 915 = .ok (.iconst 0, 1) := by decide +kernel
theorem dL_law_916 : decode cL_law 916 = .ok (.ireturn, 1) := by decide +kernel
theorem dL_law_917 : decode cL_law 917 = .ok (.iconst 0, 1) := by decide +kernel
theorem dL_law_918 : decode cL_law 918 = .ok (.istore 24, 2) := by decide +kernel
theorem dL_law_920 : decode cL_law 920 = .ok (.iconst 0, 1) := by decide +kernel
theorem dL_law_921 : decode cL_law 921 = .ok (.istore 25, 2) := by decide +kernel
theorem dL_law_923 : decode cL_law 923 = .ok (.iload 25, 2) := by decide +kernel
theorem dL_law_925 : decode cL_law 925 = .ok (.bipush 108, 2) := by decide +kernel
theorem dL_law_927 : decode cL_law 927 = .ok (.if_icmp .ge 74, 3) := by decide +kernel
theorem dL_law_930 : decode cL_law 930 = .ok (.aload_n 1, 1) := by decide +kernel
theorem dL_law_931 : decode cL_law 931 = .ok (.iload 25, 2) := by decide +kernel
theorem dL_law_933 : decode cL_law 933 = .ok (.bipush 12, 2) := by decide +kernel
theorem dL_law_935 : decode cL_law 935 = .ok (.irem, 1) := by decide +kernel
theorem dL_law_936 : decode cL_law 936 = .ok (.iload 25, 2) := by decide +kernel
theorem dL_law_938 : decode cL_law 938 = .ok (.bipush 12, 2) := by decide +kernel
theorem dL_law_940 : decode cL_law 940 = .ok (.idiv, 1) := by decide +kernel
theorem dL_law_941 : decode cL_law 941 = .ok (.invokevirtual 22, 3) := by decide +kernel
theorem dL_law_944 : decode cL_law 944 = .ok (.istore 26, 2) := by decide +kernel
theorem dL_law_946 : decode cL_law 946 = .ok (.iload 24, 2) := by decide +kernel
theorem dL_law_948 : decode cL_law 948 = .ok (.iload 26, 2) := by decide +kernel
theorem dL_law_950 : decode cL_law 950 = .ok (.ifCond .ne 7, 3) := by decide +kernel
theorem dL_law_953 : decode cL_law 953 = .ok (.iconst 1, 1) := by decide +kernel
theorem dL_law_954 : decode cL_law 954 = .ok (.goto 4, 3) := by decide +kernel
theorem dL_law_957 : decode cL_law 957 = .ok (.iconst 0, 1) := by decide +kernel
theorem dL_law_958 : decode cL_law 958 = .ok (.iadd, 1) := by decide +kernel
theorem dL_law_959 : decode cL_law 959 = .ok (.istore 24, 2) := by decide +kernel
theorem dL_law_961 : decode cL_law 961 = .ok (.iload 26, 2) := by decide +kernel
theorem dL_law_963 : decode cL_law 963 = .ok (.ifCond .ge 7, 3) := by decide +kernel
theorem dL_law_966 : decode cL_law 966 = .ok (.iconst 1, 1) := by decide +kernel
theorem dL_law_967 : decode cL_law 967 = .ok (.goto 4, 3) := by decide +kernel
theorem dL_law_970 : decode cL_law 970 = .ok (.iconst 0, 1) := by decide +kernel
theorem dL_law_971 : decode cL_law 971 = .ok (.aload 10, 2) := by decide +kernel
theorem dL_law_973 : decode cL_law 973 = .ok (.iload 25, 2) := by decide +kernel
theorem dL_law_975 : decode cL_law 975 = .ok (.iaload, 1) := by decide +kernel
theorem dL_law_976 : decode cL_law 976 = .ok (.ifCond .ge 7, 3) := by decide +kernel
theorem dL_law_979 : decode cL_law 979 = .ok (.iconst 1, 1) := by decide +kernel
theorem dL_law_980 : decode cL_law 980 = .ok (.goto 4, 3) := by decide +kernel
theorem dL_law_983 : decode cL_law 983 = .ok (.iconst 0, 1) := by decide +kernel
theorem dL_law_984 : decode cL_law 984 = .ok (.if_icmp .ne 9, 3) := by decide +kernel
theorem dL_law_987 : decode cL_law 987 = .ok (.iload 26, 2) := by decide +kernel
theorem dL_law_989 : decode cL_law 989 = .ok (.iconst 3, 1) := by decide +kernel
theorem dL_law_990 : decode cL_law 990 = .ok (.if_icmp .le 5, 3) := by decide +kernel
theorem dL_law_993 : decode cL_law 993 = .ok (.iconst 0, 1) := by decide +kernel
theorem dL_law_994 : decode cL_law 994 = .ok (.ireturn, 1) := by decide +kernel
theorem dL_law_995 : decode cL_law 995 = .ok (.iinc 25 1, 3) := by decide +kernel
theorem dL_law_998 : decode cL_law 998 = .ok (.goto (-75), 3) := by decide +kernel
theorem dL_law_1001 : decode cL_law 1001 = .ok (.iconst 0, 1) := by decide +kernel
theorem dL_law_1002 : decode cL_law 1002 = .ok (.istore 25, 2) := by decide +kernel
theorem dL_law_1004 : decode cL_law 1004 = .ok (.iload 25, 2) := by decide +kernel
theorem dL_law_1006 : decode cL_law 1006 = .ok (.iload_n 3, 1) := by decide +kernel
theorem dL_law_1007 : decode cL_law 1007 = .ok (.if_icmp .ge 211, 3) := by decide +kernel
theorem dL_law_1010 : decode cL_law 1010 = .ok (.aload_n 1, 1) := by decide +kernel
theorem dL_law_1011 : decode cL_law 1011 = .ok (.iload 25, 2) := by decide +kernel
theorem dL_law_1013 : decode cL_law 1013 = .ok (.iconst 0, 1) := by decide +kernel
theorem dL_law_1014 : decode cL_law 1014 = .ok (.invokevirtual 77, 3) := by decide +kernel
theorem dL_law_1017 : decode cL_law 1017 = .ok (.istore 26, 2) := by decide +kernel
theorem dL_law_1019 : decode cL_law 1019 = .ok (.aload_n 1, 1) := by decide +kernel
theorem dL_law_1020 : decode cL_law 1020 = .ok (.iload 25, 2) := by decide +kernel
theorem dL_law_1022 : decode cL_law 1022 = .ok (.iconst 1, 1) := by decide +kernel
theorem dL_law_1023 : decode cL_law 1023 = .ok (.invokevirtual 77, 3) := by decide +kernel
theorem dL_law_1026 : decode cL_law 1026 = .ok (.istore 27, 2) := by decide +kernel
theorem dL_law_1028 : decode cL_law 1028 = .ok (.aload 9, 2) := by decide +kernel
theorem dL_law_1030 : decode cL_law 1030 = .ok (.iload 25, 2) := by decide +kernel
theorem dL_law_1032 : decode cL_law 1032 = .ok (.aaload, 1) := by decide +kernel
theorem dL_law_1033 : decode cL_law 1033 = .ok (.iconst 2, 1) := by decide +kernel
theorem dL_law_1034 : decode cL_law 1034 = .ok (.iaload, 1) := by decide +kernel
theorem dL_law_1035 : decode cL_law 1035 = .ok (.istore 28, 2) := by decide +kernel
theorem dL_law_1037 : decode cL_law 1037 = .ok (.iload 26, 2) := by decide +kernel
theorem dL_law_1039 : decode cL_law 1039 = .ok (.aload 9, 2) := by decide +kernel
theorem dL_law_1041 : decode cL_law 1041 = .ok (.iload 25, 2) := by decide +kernel
theorem dL_law_1043 : decode cL_law 1043 = .ok (.aaload, 1) := by decide +kernel
theorem dL_law_1044 : decode cL_law 1044 = .ok (.iconst 0, 1) := by decide +kernel
theorem dL_law_1045 : decode cL_law 1045 = .ok (.iaload, 1) := by decide +kernel
theorem dL_law_1046 : decode cL_law 1046 = .ok (.if_icmp .ne 15, 3) := by decide +kernel
theorem dL_law_1049 : decode cL_law 1049 = .ok (.iload 27, 2) := by decide +kernel
theorem dL_law_1051 : decode cL_law 1051 = .ok (.aload 9, 2) := by decide +kernel
theorem dL_law_1053 : decode cL_law 1053 = .ok (.iload 25, 2) := by decide +kernel
theorem dL_law_1055 : decode cL_law 1055 = .ok (.aaload, 1) := by decide +kernel
theorem dL_law_1056 : decode cL_law 1056 = .ok (.iconst 1, 1) := by decide +kernel
theorem dL_law_1057 : decode cL_law 1057 = .ok (.iaload, 1) := by decide +kernel
theorem dL_law_1058 : decode cL_law 1058 = .ok (.if_icmp .eq 7, 3) := by decide +kernel
theorem dL_law_1061 : decode cL_law 1061 = .ok (.iconst 1, 1) := by decide +kernel
theorem dL_law_1062 : decode cL_law 1062 = .ok (.goto 4, 3) := by decide +kernel
theorem dL_law_1065 : decode cL_law 1065 = .ok (.iconst 0, 1) := by decide +kernel
theorem dL_law_1066 : decode cL_law 1066 = .ok (.istore 29, 2) := by decide +kernel
theorem dL_law_1068 : decode cL_law 1068 = .ok (.aload_n 1, 1) := by decide +kernel
theorem dL_law_1069 : decode cL_law 1069 = .ok (.iload 26, 2) := by decide +kernel
theorem dL_law_1071 : decode cL_law 1071 = .ok (.iload 27, 2) := by decide +kernel
theorem dL_law_1073 : decode cL_law 1073 = .ok (.invokevirtual 22, 3) := by decide +kernel
theorem dL_law_1076 : decode cL_law 1076 = .ok (.ifCond .ne 134, 3) := by decide +kernel
theorem dL_law_1079 : decode cL_law 1079 = .ok (.iload 29, 2) := by decide +kernel
theorem dL_law_1081 : decode cL_law 1081 = .ok (.ifCond .eq 70, 3) := by decide +kernel
theorem dL_law_1084 : decode cL_law 1084 = .ok (.iload 26, 2) := by decide +kernel
theorem dL_law_1086 : decode cL_law 1086 = .ok (.aload 9, 2) := by decide +kernel
theorem dL_law_1088 : decode cL_law 1088 = .ok (.iload 25, 2) := by decide +kernel
theorem dL_law_1090 : decode cL_law 1090 = .ok (.aaload, 1) := by decide +kernel
theorem dL_law_1091 : decode cL_law 1091 = .ok (.iconst 0, 1) := by decide +kernel
theorem dL_law_1092 : decode cL_law 1092 = .ok (.iaload, 1) := by decide +kernel
theorem dL_law_1093 : decode cL_law 1093 = .ok (.iload 28, 2) := by decide +kernel
theorem dL_law_1095 : decode cL_law 1095 = .ok (.iconst 1, 1) := by decide +kernel
theorem dL_law_1096 : decode cL_law 1096 = .ok (.if_icmp .ne 7, 3) := by decide +kernel
theorem dL_law_1099 : decode cL_law 1099 = .ok (.iconst 1, 1) := by decide +kernel
theorem dL_law_1100 : decode cL_law 1100 = .ok (.goto 14, 3) := by decide +kernel
theorem dL_law_1103 : decode cL_law 1103 = .ok (.iload 28, 2) := by decide +kernel
theorem dL_law_1105 : decode cL_law 1105 = .ok (.iconst 3, 1) := by decide +kernel
theorem dL_law_1106 : decode cL_law 1106 = .ok (.if_icmp .ne 7, 3) := by decide +kernel
theorem dL_law_1109 : decode cL_law 1109 = .ok (.iconst (-1), 1) := by decide +kernel
theorem dL_law_1110 : decode cL_law 1110 = .ok (.goto 4, 3) := by decide +kernel
theorem dL_law_1113 : decode cL_law 1113 = .ok (.iconst 0, 1) := by decide +kernel
theorem dL_law_1114 : decode cL_law 1114 = .ok (.iadd, 1) := by decide +kernel
theorem dL_law_1115 : decode cL_law 1115 = .ok (.if_icmp .ne 95, 3) := by decide +kernel
theorem dL_law_1118 : decode cL_law 1118 = .ok (.iload 27, 2) := by decide +kernel
theorem dL_law_1120 : decode cL_law 1120 = .ok (.aload 9, 2) := by decide +kernel
theorem dL_law_1122 : decode cL_law 1122 = .ok (.iload 25, 2) := by decide +kernel
theorem dL_law_1124 : decode cL_law 1124 = .ok (.aaload, 1) := by decide +kernel
theorem dL_law_1125 : decode cL_law 1125 = .ok (.iconst 1, 1) := by decide +kernel
theorem dL_law_1126 : decode cL_law 1126 = .ok (.iaload, 1) := by decide +kernel
theorem dL_law_1127 : decode cL_law 1127 = .ok (.iload 28, 2) := by decide +kernel
theorem dL_law_1129 : decode cL_law 1129 = .ok (.iconst 2, 1) := by decide +kernel
theorem dL_law_1130 : decode cL_law 1130 = .ok (.if_icmp .ne 7, 3) := by decide +kernel
theorem dL_law_1133 : decode cL_law 1133 = .ok (.iconst 1, 1) := by decide +kernel
theorem dL_law_1134 : decode cL_law 1134 = .ok (.goto 13, 3) := by decide +kernel
theorem dL_law_1137 : decode cL_law 1137 = .ok (.iload 28, 2) := by decide +kernel
theorem dL_law_1139 : decode cL_law 1139 = .ok (.ifCond .ne 7, 3) := by decide +kernel
theorem dL_law_1142 : decode cL_law 1142 = .ok (.iconst (-1), 1) := by decide +kernel
theorem dL_law_1143 : decode cL_law 1143 = .ok (.goto 4, 3) := by decide +kernel
theorem dL_law_1146 : decode cL_law 1146 = .ok (.iconst 0, 1) := by decide +kernel
theorem dL_law_1147 : decode cL_law 1147 = .ok (.iadd, 1) := by decide +kernel
theorem dL_law_1148 : decode cL_law 1148 = .ok (.if_icmp .ne 62, 3) := by decide +kernel
theorem dL_law_1151 : decode cL_law 1151 = .ok (.iload 29, 2) := by decide +kernel
theorem dL_law_1153 : decode cL_law 1153 = .ok (.ifCond .ne 59, 3) := by decide +kernel
theorem dL_law_1156 : decode cL_law 1156 = .ok (.aload_n 1, 1) := by decide +kernel
theorem dL_law_1157 : decode cL_law 1157 = .ok (.iload 26, 2) := by decide +kernel
theorem dL_law_1159 : decode cL_law 1159 = .ok (.iload 28, 2) := by decide +kernel
theorem dL_law_1161 : decode cL_law 1161 = .ok (.iconst 1, 1) := by decide +kernel
theorem dL_law_1162 : decode cL_law 1162 = .ok (.if_icmp .ne 7, 3) := by decide +kernel
theorem dL_law_1165 : decode cL_law 1165 = .ok (.iconst 1, 1) := by decide +kernel
theorem dL_law_1166 : decode cL_law 1166 = .ok (.goto 14, 3) := by decide +kernel
theorem dL_law_1169 : decode cL_law 1169 = .ok (.iload 28, 2) := by decide +kernel
theorem dL_law_1171 : decode cL_law 1171 = .ok (.iconst 3, 1) := by decide +kernel
theorem dL_law_1172 : decode cL_law 1172 = .ok (.if_icmp .ne 7, 3) := by decide +kernel
theorem dL_law_1175 : decode cL_law 1175 = .ok (.iconst (-1), 1) := by decide +kernel
theorem dL_law_1176 : decode cL_law 1176 = .ok (.goto 4, 3) := by decide +kernel
theorem dL_law_1179 : decode cL_law 1179 = .ok (.iconst 0, 1) := by decide +kernel
theorem dL_law_1180 : decode cL_law 1180 = .ok (.iadd, 1) := by decide +kernel
theorem dL_law_1181 : decode cL_law 1181 = .ok (.iload 27, 2) := by decide +kernel
theorem dL_law_1183 : decode cL_law 1183 = .ok (.iload 28, 2) := by decide +kernel
theorem dL_law_1185 : decode cL_law 1185 = .ok (.iconst 2, 1) := by decide +kernel
theorem dL_law_1186 : decode cL_law 1186 = .ok (.if_icmp .ne 7, 3) := by decide +kernel
theorem dL_law_1189 : decode cL_law 1189 = .ok (.iconst 1, 1) := by decide +kernel
theorem dL_law_1190 : decode cL_law 1190 = .ok (.goto 13, 3) := by decide +kernel
theorem dL_law_1193 : decode cL_law 1193 = .ok (.iload 28, 2) := by decide +kernel
theorem dL_law_1195 : decode cL_law 1195 = .ok (.ifCond .ne 7, 3) := by decide +kernel
theorem dL_law_1198 : decode cL_law 1198 = .ok (.iconst (-1), 1) := by decide +kernel
theorem dL_law_1199 : decode cL_law 1199 = .ok (.goto 4, 3) := by decide +kernel
theorem dL_law_1202 : decode cL_law 1202 = .ok (.iconst 0, 1) := by decide +kernel
theorem dL_law_1203 : decode cL_law 1203 = .ok (.iadd, 1) := by decide +kernel
theorem dL_law_1204 : decode cL_law 1204 = .ok (.invokestatic 105, 3) := by decide +kernel
theorem dL_law_1207 : decode cL_law 1207 = .ok (.ifCond .eq 5, 3) := by decide +kernel
theorem dL_law_1210 : decode cL_law 1210 = .ok (.iconst 0, 1) := by decide +kernel
theorem dL_law_1211 : decode cL_law 1211 = .ok (.ireturn, 1) := by decide +kernel
theorem dL_law_1212 : decode cL_law 1212 = .ok (.iinc 25 1, 3) := by decide +kernel
theorem dL_law_1215 : decode cL_law 1215 = .ok (.goto (-211), 3) := by decide +kernel
theorem dL_law_1218 : decode cL_law 1218 = .ok (.aload_n 1, 1) := by decide +kernel
theorem dL_law_1219 : decode cL_law 1219 = .ok (.iconst 3, 1) := by decide +kernel
theorem dL_law_1220 : decode cL_law 1220 = .ok (.invokevirtual 32, 3) := by decide +kernel
theorem dL_law_1223 : decode cL_law 1223 = .ok (.iload 24, 2) := by decide +kernel
theorem dL_law_1225 : decode cL_law 1225 = .ok (.if_icmp .eq 5, 3) := by decide +kernel
theorem dL_law_1228 : decode cL_law 1228 = .ok (.iconst 0, 1) := by decide +kernel
theorem dL_law_1229 : decode cL_law 1229 = .ok (.ireturn, 1) := by decide +kernel
theorem dL_law_1230 : decode cL_law 1230 = .ok (.iconst 0, 1) := by decide +kernel
theorem dL_law_1231 : decode cL_law 1231 = .ok (.istore 25, 2) := by decide +kernel
theorem dL_law_1233 : decode cL_law 1233 = .ok (.iconst 0, 1) := by decide +kernel
theorem dL_law_1234 : decode cL_law 1234 = .ok (.istore 26, 2) := by decide +kernel
theorem dL_law_1236 : decode cL_law 1236 = .ok (.iload 26, 2) := by decide +kernel
theorem dL_law_1238 : decode cL_law 1238 = .ok (.bipush 9, 2) := by decide +kernel
theorem dL_law_1240 : decode cL_law 1240 = .ok (.if_icmp .ge 53, 3) := by decide +kernel
theorem dL_law_1243 : decode cL_law 1243 = .ok (.iconst 0, 1) := by decide +kernel
theorem dL_law_1244 : decode cL_law 1244 = .ok (.istore 27, 2) := by decide +kernel
theorem dL_law_1246 : decode cL_law 1246 = .ok (.iload 27, 2) := by decide +kernel
theorem dL_law_1248 : decode cL_law 1248 = .ok (.bipush 9, 2) := by decide +kernel
theorem dL_law_1250 : decode cL_law 1250 = .ok (.if_icmp .ge 37, 3) := by decide +kernel
theorem dL_law_1253 : decode cL_law 1253 = .ok (.iload 25, 2) := by decide +kernel
theorem dL_law_1255 : decode cL_law 1255 = .ok (.ifCond .ne 32, 3) := by decide +kernel
theorem dL_law_1258 : decode cL_law 1258 = .ok (.aload_n 1, 1) := by decide +kernel
theorem dL_law_1259 : decode cL_law 1259 = .ok (.iconst 0, 1) := by decide +kernel
theorem dL_law_1260 : decode cL_law 1260 = .ok (.iload 26, 2) := by decide +kernel
theorem dL_law_1262 : decode cL_law 1262 = .ok (.bipush 11, 2) := by decide +kernel
theorem dL_law_1264 : decode cL_law 1264 = .ok (.iload 27, 2) := by decide +kernel
theorem dL_law_1266 : decode cL_law 1266 = .ok (.invokevirtual 109, 3) := by decide +kernel
theorem dL_law_1269 : decode cL_law 1269 = .ok (.bipush 11, 2) := by decide +kernel
theorem dL_law_1271 : decode cL_law 1271 = .ok (.if_icmp .lt 7, 3) := by decide +kernel
theorem dL_law_1274 : decode cL_law 1274 = .ok (.iconst 1, 1) := by decide +kernel
theorem dL_law_1275 : decode cL_law 1275 = .ok (.goto 4, 3) := by decide +kernel
theorem dL_law_1278 : decode cL_law 1278 = .ok (.iconst 0, 1) := by decide +kernel
theorem dL_law_1279 : decode cL_law 1279 = .ok (.istore 25, 2) := by decide +kernel
theorem dL_law_1281 : decode cL_law 1281 = .ok (.iinc 27 1, 3) := by decide +kernel
theorem dL_law_1284 : decode cL_law 1284 = .ok (.goto (-38), 3) := by decide +kernel
theorem dL_law_1287 : decode cL_law 1287 = .ok (.iinc 26 1, 3) := by decide +kernel
theorem dL_law_1290 : decode cL_law 1290 = .ok (.goto (-54), 3) := by decide +kernel
theorem dL_law_1293 : decode cL_law 1293 = .ok (.iload 25, 2) := by decide +kernel
theorem dL_law_1295 : decode cL_law 1295 = .ok (.iload 18, 2) := by decide +kernel
theorem dL_law_1297 : decode cL_law 1297 = .ok (.ifCond .le 7, 3) := by decide +kernel
theorem dL_law_1300 : decode cL_law 1300 = .ok (.iconst 1, 1) := by decide +kernel
theorem dL_law_1301 : decode cL_law 1301 = .ok (.goto 4, 3) := by decide +kernel
theorem dL_law_1304 : decode cL_law 1304 = .ok (.iconst 0, 1) := by decide +kernel
theorem dL_law_1305 : decode cL_law 1305 = .ok (.if_icmp .eq 5, 3) := by decide +kernel
theorem dL_law_1308 : decode cL_law 1308 = .ok (.iconst 0, 1) := by decide +kernel
theorem dL_law_1309 : decode cL_law 1309 = .ok (.ireturn, 1) := by decide +kernel
theorem dL_law_1310 : decode cL_law 1310 = .ok (.iinc 4 1, 3) := by decide +kernel
theorem dL_law_1313 : decode cL_law 1313 = .ok (.goto (-1276), 3) := by decide +kernel
theorem dL_law_1316 : decode cL_law 1316 = .ok (.iconst 1, 1) := by decide +kernel
theorem dL_law_1317 : decode cL_law 1317 = .ok (.ireturn, 1) := by decide +kernel
theorem dL_isThere_0 : decode cL_isThere 0 = .ok (.aload_n 0, 1) := by decide +kernel
theorem dL_isThere_1 : decode cL_isThere 1 = .ok (.iload_n 1, 1) := by decide +kernel
theorem dL_isThere_2 : decode cL_isThere 2 = .ok (.iconst 0, 1) := by decide +kernel
theorem dL_isThere_3 : decode cL_isThere 3 = .ok (.invokevirtual 69, 3) := by decide +kernel
theorem dL_isThere_6 : decode cL_isThere 6 = .ok (.ifCond .lt 7, 3) := by decide +kernel
theorem dL_isThere_9 : decode cL_isThere 9 = .ok (.iconst 1, 1) := by decide +kernel
theorem dL_isThere_10 : decode cL_isThere 10 = .ok (.goto 4, 3) := by decide +kernel
theorem dL_isThere_13 : decode cL_isThere 13 = .ok (.iconst 0, 1) := by decide +kernel
theorem dL_isThere_14 : decode cL_isThere 14 = .ok (.ireturn, 1) := by decide +kernel
theorem dL_isThere_15 : decode cL_isThere 15 = .ok (.astore_n 2, 1) := by decide +kernel
theorem dL_isThere_16 : decode cL_isThere 16 = .ok (.iconst 0, 1) := by decide +kernel
theorem dL_isThere_17 : decode cL_isThere 17 = .ok (.ireturn, 1) := by decide +kernel
theorem dL_isFree_0 : decode cL_isFree 0 = .ok (.iload_n 1, 1) := by decide +kernel
theorem dL_isFree_1 : decode cL_isFree 1 = .ok (.ifCond .lt 32, 3) := by decide +kernel
theorem dL_isFree_4 : decode cL_isFree 4 = .ok (.iload_n 2, 1) := by decide +kernel
theorem dL_isFree_5 : decode cL_isFree 5 = .ok (.ifCond .lt 28, 3) := by decide +kernel
theorem dL_isFree_8 : decode cL_isFree 8 = .ok (.iload_n 1, 1) := by decide +kernel
theorem dL_isFree_9 : decode cL_isFree 9 = .ok (.bipush 12, 2) := by decide +kernel
theorem dL_isFree_11 : decode cL_isFree 11 = .ok (.if_icmp .ge 22, 3) := by decide +kernel
theorem dL_isFree_14 : decode cL_isFree 14 = .ok (.iload_n 2, 1) := by decide +kernel
theorem dL_isFree_15 : decode cL_isFree 15 = .ok (.bipush 9, 2) := by decide +kernel
theorem dL_isFree_17 : decode cL_isFree 17 = .ok (.if_icmp .ge 16, 3) := by decide +kernel
theorem dL_isFree_20 : decode cL_isFree 20 = .ok (.aload_n 0, 1) := by decide +kernel
theorem dL_isFree_21 : decode cL_isFree 21 = .ok (.iload_n 1, 1) := by decide +kernel
theorem dL_isFree_22 : decode cL_isFree 22 = .ok (.iload_n 2, 1) := by decide +kernel
theorem dL_isFree_23 : decode cL_isFree 23 = .ok (.invokevirtual 22, 3) := by decide +kernel
theorem dL_isFree_26 : decode cL_isFree 26 = .ok (.ifCond .ne 7, 3) := by decide +kernel
theorem dL_isFree_29 : decode cL_isFree 29 = .ok (.iconst 1, 1) := by decide +kernel
theorem dL_isFree_30 : decode cL_isFree 30 = .ok (.goto 4, 3) := by decide +kernel
theorem dL_isFree_33 : decode cL_isFree 33 = .ok (.iconst 0, 1) := by decide +kernel
theorem dL_isFree_34 : decode cL_isFree 34 = .ok (.ireturn, 1) := by decide +kernel
theorem dL_seen_0 : decode cL_seen 0 = .ok (.iload_n 3, 1) := by decide +kernel
theorem dL_seen_1 : decode cL_seen 1 = .ok (.ifCond .le 14, 3) := by decide +kernel
theorem dL_seen_4 : decode cL_seen 4 = .ok (.aload_n 0, 1) := by decide +kernel
theorem dL_seen_5 : decode cL_seen 5 = .ok (.iload_n 1, 1) := by decide +kernel
theorem dL_seen_6 : decode cL_seen 6 = .ok (.iconst 2, 1) := by decide +kernel
theorem dL_seen_7 : decode cL_seen 7 = .ok (.invokevirtual 69, 3) := by decide +kernel
theorem dL_seen_10 : decode cL_seen 10 = .ok (.ifCond .ne 5, 3) := by decide +kernel
theorem dL_seen_13 : decode cL_seen 13 = .ok (.iload_n 3, 1) := by decide +kernel
theorem dL_seen_14 : decode cL_seen 14 = .ok (.ireturn, 1) := by decide +kernel
theorem dL_seen_15 : decode cL_seen 15 = .ok (.iconst 0, 1) := by decide +kernel
theorem dL_seen_16 : decode cL_seen 16 = .ok (.istore 4, 2) := by decide +kernel
theorem dL_seen_18 : decode cL_seen 18 = .ok (.iconst 0, 1) := by decide +kernel
theorem dL_seen_19 : decode cL_seen 19 = .ok (.istore 5, 2) := by decide +kernel
theorem dL_seen_21 : decode cL_seen 21 = .ok (.iload 5, 2) := by decide +kernel
theorem dL_seen_23 : decode cL_seen 23 = .ok (.iload_n 2, 1) := by decide +kernel
theorem dL_seen_24 : decode cL_seen 24 = .ok (.if_icmp .ge 29, 3) := by decide +kernel
theorem dL_seen_27 : decode cL_seen 27 = .ok (.iload 4, 2) := by decide +kernel
theorem dL_seen_29 : decode cL_seen 29 = .ok (.aload_n 0, 1) := by decide +kernel
theorem dL_seen_30 : decode cL_seen 30 = .ok (.iload 5, 2) := by decide +kernel
theorem dL_seen_32 : decode cL_seen 32 = .ok (.iload_n 1, 1) := by decide +kernel
theorem dL_seen_33 : decode cL_seen 33 = .ok (.invokevirtual 114, 3) := by decide +kernel
theorem dL_seen_36 : decode cL_seen 36 = .ok (.ifCond .eq 7, 3) := by decide +kernel
theorem dL_seen_39 : decode cL_seen 39 = .ok (.iconst 1, 1) := by decide +kernel
theorem dL_seen_40 : decode cL_seen 40 = .ok (.goto 4, 3) := by decide +kernel
theorem dL_seen_43 : decode cL_seen 43 = .ok (.iconst 0, 1) := by decide +kernel
theorem dL_seen_44 : decode cL_seen 44 = .ok (.iadd, 1) := by decide +kernel
theorem dL_seen_45 : decode cL_seen 45 = .ok (.istore 4, 2) := by decide +kernel
theorem dL_seen_47 : decode cL_seen 47 = .ok (.iinc 5 1, 3) := by decide +kernel
theorem dL_seen_50 : decode cL_seen 50 = .ok (.goto (-29), 3) := by decide +kernel
theorem dL_seen_53 : decode cL_seen 53 = .ok (.iload 4, 2) := by decide +kernel
theorem dL_seen_55 : decode cL_seen 55 = .ok (.ireturn, 1) := by decide +kernel
