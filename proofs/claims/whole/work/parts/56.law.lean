theorem dL_law_476 : decode cL_law 476 = .ok (.aload_n 1, 1) := by decide +kernel
theorem dL_law_477 : decode cL_law 477 = .ok (.aload_n 0, 1) := by decide +kernel
theorem dL_law_478 : decode cL_law 478 = .ok (.iload_n 3, 1) := by decide +kernel
theorem dL_law_479 : decode cL_law 479 = .ok (.iconst 1, 1) := by decide +kernel
theorem dL_law_480 : decode cL_law 480 = .ok (.iadd, 1) := by decide +kernel
theorem dL_law_481 : decode cL_law 481 = .ok (.iaload, 1) := by decide +kernel
theorem dL_law_482 : decode cL_law 482 = .ok (.invokevirtual 51, 3) := by decide +kernel
theorem dL_law_485 : decode cL_law 485 = .ok (.aload_n 2, 1) := by decide +kernel
theorem dL_law_486 : decode cL_law 486 = .ok (.aload_n 0, 1) := by decide +kernel
theorem dL_law_487 : decode cL_law 487 = .ok (.iload_n 3, 1) := by decide +kernel
theorem dL_law_488 : decode cL_law 488 = .ok (.iconst 1, 1) := by decide +kernel
theorem dL_law_489 : decode cL_law 489 = .ok (.iadd, 1) := by decide +kernel
theorem dL_law_490 : decode cL_law 490 = .ok (.iaload, 1) := by decide +kernel
theorem dL_law_491 : decode cL_law 491 = .ok (.invokevirtual 55, 3) := by decide +kernel
theorem dL_law_494 : decode cL_law 494 = .ok (.if_icmp .eq 386, 3) := by decide +kernel
theorem dL_law_499 : decode cL_law 499 = .ok (.aload_n 1, 1) := by decide +kernel
theorem dL_law_500 : decode cL_law 500 = .ok (.aload_n 0, 1) := by decide +kernel
theorem dL_law_501 : decode cL_law 501 = .ok (.iload_n 3, 1) := by decide +kernel
theorem dL_law_502 : decode cL_law 502 = .ok (.iconst 1, 1) := by decide +kernel
theorem dL_law_503 : decode cL_law 503 = .ok (.iadd, 1) := by decide +kernel
theorem dL_law_504 : decode cL_law 504 = .ok (.iaload, 1) := by decide +kernel
theorem dL_law_505 : decode cL_law 505 = .ok (.aload_n 0, 1) := by decide +kernel
theorem dL_law_506 : decode cL_law 506 = .ok (.iload_n 3, 1) := by decide +kernel
theorem dL_law_507 : decode cL_law 507 = .ok (.iconst 2, 1) := by decide +kernel
theorem dL_law_508 : decode cL_law 508 = .ok (.iadd, 1) := by decide +kernel
theorem dL_law_509 : decode cL_law 509 = .ok (.iaload, 1) := by decide +kernel
theorem dL_law_510 : decode cL_law 510 = .ok (.invokevirtual 56, 3) := by decide +kernel
theorem dL_law_513 : decode cL_law 513 = .ok (.aload_n 2, 1) := by decide +kernel
theorem dL_law_514 : decode cL_law 514 = .ok (.aload_n 0, 1) := by decide +kernel
theorem dL_law_515 : decode cL_law 515 = .ok (.iload_n 3, 1) := by decide +kernel
theorem dL_law_516 : decode cL_law 516 = .ok (.iconst 1, 1) := by decide +kernel
theorem dL_law_517 : decode cL_law 517 = .ok (.iadd, 1) := by decide +kernel
theorem dL_law_518 : decode cL_law 518 = .ok (.iaload, 1) := by decide +kernel
theorem dL_law_519 : decode cL_law 519 = .ok (.aload_n 0, 1) := by decide +kernel
theorem dL_law_520 : decode cL_law 520 = .ok (.iload_n 3, 1) := by decide +kernel
theorem dL_law_521 : decode cL_law 521 = .ok (.iconst 2, 1) := by decide +kernel
theorem dL_law_522 : decode cL_law 522 = .ok (.iadd, 1) := by decide +kernel
theorem dL_law_523 : decode cL_law 523 = .ok (.iaload, 1) := by decide +kernel
theorem dL_law_524 : decode cL_law 524 = .ok (.invokevirtual 60, 3) := by decide +kernel
theorem dL_law_527 : decode cL_law 527 = .ok (.if_icmp .eq 353, 3) := by decide +kernel
theorem dL_law_532 : decode cL_law 532 = .ok (.aload_n 1, 1) := by decide +kernel
theorem dL_law_533 : decode cL_law 533 = .ok (.aload_n 0, 1) := by decide +kernel
theorem dL_law_534 : decode cL_law 534 = .ok (.iload_n 3, 1) := by decide +kernel
theorem dL_law_535 : decode cL_law 535 = .ok (.iconst 1, 1) := by decide +kernel
theorem dL_law_536 : decode cL_law 536 = .ok (.iadd, 1) := by decide +kernel
theorem dL_law_537 : decode cL_law 537 = .ok (.iaload, 1) := by decide +kernel
theorem dL_law_538 : decode cL_law 538 = .ok (.aload_n 0, 1) := by decide +kernel
theorem dL_law_539 : decode cL_law 539 = .ok (.iload_n 3, 1) := by decide +kernel
theorem dL_law_540 : decode cL_law 540 = .ok (.iconst 2, 1) := by decide +kernel
theorem dL_law_541 : decode cL_law 541 = .ok (.iadd, 1) := by decide +kernel
theorem dL_law_542 : decode cL_law 542 = .ok (.iaload, 1) := by decide +kernel
theorem dL_law_543 : decode cL_law 543 = .ok (.aload_n 0, 1) := by decide +kernel
theorem dL_law_544 : decode cL_law 544 = .ok (.iload_n 3, 1) := by decide +kernel
theorem dL_law_545 : decode cL_law 545 = .ok (.iconst 3, 1) := by decide +kernel
theorem dL_law_546 : decode cL_law 546 = .ok (.iadd, 1) := by decide +kernel
theorem dL_law_547 : decode cL_law 547 = .ok (.iaload, 1) := by decide +kernel
theorem dL_law_548 : decode cL_law 548 = .ok (.invokevirtual 61, 3) := by decide +kernel
theorem dL_law_551 : decode cL_law 551 = .ok (.aload_n 2, 1) := by decide +kernel
theorem dL_law_552 : decode cL_law 552 = .ok (.aload_n 0, 1) := by decide +kernel
theorem dL_law_553 : decode cL_law 553 = .ok (.iload_n 3, 1) := by decide +kernel
theorem dL_law_554 : decode cL_law 554 = .ok (.iconst 1, 1) := by decide +kernel
theorem dL_law_555 : decode cL_law 555 = .ok (.iadd, 1) := by decide +kernel
theorem dL_law_556 : decode cL_law 556 = .ok (.iaload, 1) := by decide +kernel
theorem dL_law_557 : decode cL_law 557 = .ok (.aload_n 0, 1) := by decide +kernel
theorem dL_law_558 : decode cL_law 558 = .ok (.iload_n 3, 1) := by decide +kernel
theorem dL_law_559 : decode cL_law 559 = .ok (.iconst 2, 1) := by decide +kernel
theorem dL_law_560 : decode cL_law 560 = .ok (.iadd, 1) := by decide +kernel
theorem dL_law_561 : decode cL_law 561 = .ok (.iaload, 1) := by decide +kernel
theorem dL_law_562 : decode cL_law 562 = .ok (.aload_n 0, 1) := by decide +kernel
theorem dL_law_563 : decode cL_law 563 = .ok (.iload_n 3, 1) := by decide +kernel
theorem dL_law_564 : decode cL_law 564 = .ok (.iconst 3, 1) := by decide +kernel
theorem dL_law_565 : decode cL_law 565 = .ok (.iadd, 1) := by decide +kernel
theorem dL_law_566 : decode cL_law 566 = .ok (.iaload, 1) := by decide +kernel
theorem dL_law_567 : decode cL_law 567 = .ok (.invokevirtual 65, 3) := by decide +kernel
theorem dL_law_570 : decode cL_law 570 = .ok (.if_icmp .eq 310, 3) := by decide +kernel
theorem dL_law_575 : decode cL_law 575 = .ok (.aload_n 1, 1) := by decide +kernel
theorem dL_law_576 : decode cL_law 576 = .ok (.aload_n 0, 1) := by decide +kernel
theorem dL_law_577 : decode cL_law 577 = .ok (.iload_n 3, 1) := by decide +kernel
theorem dL_law_578 : decode cL_law 578 = .ok (.iconst 1, 1) := by decide +kernel
theorem dL_law_579 : decode cL_law 579 = .ok (.iadd, 1) := by decide +kernel
theorem dL_law_580 : decode cL_law 580 = .ok (.iaload, 1) := by decide +kernel
theorem dL_law_581 : decode cL_law 581 = .ok (.aload_n 0, 1) := by decide +kernel
theorem dL_law_582 : decode cL_law 582 = .ok (.iload_n 3, 1) := by decide +kernel
theorem dL_law_583 : decode cL_law 583 = .ok (.iconst 2, 1) := by decide +kernel
theorem dL_law_584 : decode cL_law 584 = .ok (.iadd, 1) := by decide +kernel
theorem dL_law_585 : decode cL_law 585 = .ok (.iaload, 1) := by decide +kernel
theorem dL_law_586 : decode cL_law 586 = .ok (.aload_n 0, 1) := by decide +kernel
theorem dL_law_587 : decode cL_law 587 = .ok (.iload_n 3, 1) := by decide +kernel
theorem dL_law_588 : decode cL_law 588 = .ok (.iconst 3, 1) := by decide +kernel
theorem dL_law_589 : decode cL_law 589 = .ok (.iadd, 1) := by decide +kernel
theorem dL_law_590 : decode cL_law 590 = .ok (.iaload, 1) := by decide +kernel
theorem dL_law_591 : decode cL_law 591 = .ok (.invokevirtual 66, 3) := by decide +kernel
theorem dL_law_594 : decode cL_law 594 = .ok (.aload_n 2, 1) := by decide +kernel
theorem dL_law_595 : decode cL_law 595 = .ok (.aload_n 0, 1) := by decide +kernel
theorem dL_law_596 : decode cL_law 596 = .ok (.iload_n 3, 1) := by decide +kernel
theorem dL_law_597 : decode cL_law 597 = .ok (.iconst 1, 1) := by decide +kernel
theorem dL_law_598 : decode cL_law 598 = .ok (.iadd, 1) := by decide +kernel
theorem dL_law_599 : decode cL_law 599 = .ok (.iaload, 1) := by decide +kernel
theorem dL_law_600 : decode cL_law 600 = .ok (.aload_n 0, 1) := by decide +kernel
theorem dL_law_601 : decode cL_law 601 = .ok (.iload_n 3, 1) := by decide +kernel
theorem dL_law_602 : decode cL_law 602 = .ok (.iconst 2, 1) := by decide +kernel
theorem dL_law_603 : decode cL_law 603 = .ok (.iadd, 1) := by decide +kernel
theorem dL_law_604 : decode cL_law 604 = .ok (.iaload, 1) := by decide +kernel
theorem dL_law_605 : decode cL_law 605 = .ok (.aload_n 0, 1) := by decide +kernel
theorem dL_law_606 : decode cL_law 606 = .ok (.iload_n 3, 1) := by decide +kernel
theorem dL_law_607 : decode cL_law 607 = .ok (.iconst 3, 1) := by decide +kernel
theorem dL_law_608 : decode cL_law 608 = .ok (.iadd, 1) := by decide +kernel
theorem dL_law_609 : decode cL_law 609 = .ok (.iaload, 1) := by decide +kernel
theorem dL_law_610 : decode cL_law 610 = .ok (.invokevirtual 69, 3) := by decide +kernel
theorem dL_law_613 : decode cL_law 613 = .ok (.if_icmp .eq 267, 3) := by decide +kernel
theorem dL_law_618 : decode cL_law 618 = .ok (.aload_n 1, 1) := by decide +kernel
theorem dL_law_619 : decode cL_law 619 = .ok (.aload_n 0, 1) := by decide +kernel
theorem dL_law_620 : decode cL_law 620 = .ok (.iload_n 3, 1) := by decide +kernel
theorem dL_law_621 : decode cL_law 621 = .ok (.iconst 1, 1) := by decide +kernel
theorem dL_law_622 : decode cL_law 622 = .ok (.iadd, 1) := by decide +kernel
theorem dL_law_623 : decode cL_law 623 = .ok (.iaload, 1) := by decide +kernel
theorem dL_law_624 : decode cL_law 624 = .ok (.aload_n 0, 1) := by decide +kernel
theorem dL_law_625 : decode cL_law 625 = .ok (.iload_n 3, 1) := by decide +kernel
theorem dL_law_626 : decode cL_law 626 = .ok (.iconst 2, 1) := by decide +kernel
theorem dL_law_627 : decode cL_law 627 = .ok (.iadd, 1) := by decide +kernel
theorem dL_law_628 : decode cL_law 628 = .ok (.iaload, 1) := by decide +kernel
theorem dL_law_629 : decode cL_law 629 = .ok (.aload_n 0, 1) := by decide +kernel
theorem dL_law_630 : decode cL_law 630 = .ok (.iload_n 3, 1) := by decide +kernel
theorem dL_law_631 : decode cL_law 631 = .ok (.iconst 3, 1) := by decide +kernel
theorem dL_law_632 : decode cL_law 632 = .ok (.iadd, 1) := by decide +kernel
theorem dL_law_633 : decode cL_law 633 = .ok (.iaload, 1) := by decide +kernel
theorem dL_law_634 : decode cL_law 634 = .ok (.aload_n 0, 1) := by decide +kernel
theorem dL_law_635 : decode cL_law 635 = .ok (.iload_n 3, 1) := by decide +kernel
theorem dL_law_636 : decode cL_law 636 = .ok (.iconst 4, 1) := by decide +kernel
theorem dL_law_637 : decode cL_law 637 = .ok (.iadd, 1) := by decide +kernel
theorem dL_law_638 : decode cL_law 638 = .ok (.iaload, 1) := by decide +kernel
theorem dL_law_639 : decode cL_law 639 = .ok (.aload_n 0, 1) := by decide +kernel
theorem dL_law_640 : decode cL_law 640 = .ok (.iload_n 3, 1) := by decide +kernel
theorem dL_law_641 : decode cL_law 641 = .ok (.iconst 5, 1) := by decide +kernel
theorem dL_law_642 : decode cL_law 642 = .ok (.iadd, 1) := by decide +kernel
theorem dL_law_643 : decode cL_law 643 = .ok (.iaload, 1) := by decide +kernel
theorem dL_law_644 : decode cL_law 644 = .ok (.invokevirtual 70, 3) := by decide +kernel
theorem dL_law_647 : decode cL_law 647 = .ok (.aload_n 2, 1) := by decide +kernel
theorem dL_law_648 : decode cL_law 648 = .ok (.aload_n 0, 1) := by decide +kernel
theorem dL_law_649 : decode cL_law 649 = .ok (.iload_n 3, 1) := by decide +kernel
theorem dL_law_650 : decode cL_law 650 = .ok (.iconst 1, 1) := by decide +kernel
theorem dL_law_651 : decode cL_law 651 = .ok (.iadd, 1) := by decide +kernel
theorem dL_law_652 : decode cL_law 652 = .ok (.iaload, 1) := by decide +kernel
theorem dL_law_653 : decode cL_law 653 = .ok (.aload_n 0, 1) := by decide +kernel
theorem dL_law_654 : decode cL_law 654 = .ok (.iload_n 3, 1) := by decide +kernel
theorem dL_law_655 : decode cL_law 655 = .ok (.iconst 2, 1) := by decide +kernel
theorem dL_law_656 : decode cL_law 656 = .ok (.iadd, 1) := by decide +kernel
theorem dL_law_657 : decode cL_law 657 = .ok (.iaload, 1) := by decide +kernel
theorem dL_law_658 : decode cL_law 658 = .ok (.aload_n 0, 1) := by decide +kernel
theorem dL_law_659 : decode cL_law 659 = .ok (.iload_n 3, 1) := by decide +kernel
theorem dL_law_660 : decode cL_law 660 = .ok (.iconst 3, 1) := by decide +kernel
theorem dL_law_661 : decode cL_law 661 = .ok (.iadd, 1) := by decide +kernel
theorem dL_law_662 : decode cL_law 662 = .ok (.iaload, 1) := by decide +kernel
theorem dL_law_663 : decode cL_law 663 = .ok (.aload_n 0, 1) := by decide +kernel
theorem dL_law_664 : decode cL_law 664 = .ok (.iload_n 3, 1) := by decide +kernel
theorem dL_law_665 : decode cL_law 665 = .ok (.iconst 4, 1) := by decide +kernel
theorem dL_law_666 : decode cL_law 666 = .ok (.iadd, 1) := by decide +kernel
theorem dL_law_667 : decode cL_law 667 = .ok (.iaload, 1) := by decide +kernel
theorem dL_law_668 : decode cL_law 668 = .ok (.aload_n 0, 1) := by decide +kernel
theorem dL_law_669 : decode cL_law 669 = .ok (.iload_n 3, 1) := by decide +kernel
theorem dL_law_670 : decode cL_law 670 = .ok (.iconst 5, 1) := by decide +kernel
theorem dL_law_671 : decode cL_law 671 = .ok (.iadd, 1) := by decide +kernel
theorem dL_law_672 : decode cL_law 672 = .ok (.iaload, 1) := by decide +kernel
theorem dL_law_673 : decode cL_law 673 = .ok (.invokevirtual 73, 3) := by decide +kernel
theorem dL_law_676 : decode cL_law 676 = .ok (.if_icmp .eq 204, 3) := by decide +kernel
theorem dL_law_681 : decode cL_law 681 = .ok (.aload_n 1, 1) := by decide +kernel
theorem dL_law_682 : decode cL_law 682 = .ok (.aload_n 0, 1) := by decide +kernel
theorem dL_law_683 : decode cL_law 683 = .ok (.iload_n 3, 1) := by decide +kernel
theorem dL_law_684 : decode cL_law 684 = .ok (.iconst 1, 1) := by decide +kernel
theorem dL_law_685 : decode cL_law 685 = .ok (.iadd, 1) := by decide +kernel
theorem dL_law_686 : decode cL_law 686 = .ok (.iaload, 1) := by decide +kernel
theorem dL_law_687 : decode cL_law 687 = .ok (.aload_n 0, 1) := by decide +kernel
theorem dL_law_688 : decode cL_law 688 = .ok (.iload_n 3, 1) := by decide +kernel
theorem dL_law_689 : decode cL_law 689 = .ok (.iconst 2, 1) := by decide +kernel
theorem dL_law_690 : decode cL_law 690 = .ok (.iadd, 1) := by decide +kernel
theorem dL_law_691 : decode cL_law 691 = .ok (.iaload, 1) := by decide +kernel
theorem dL_law_692 : decode cL_law 692 = .ok (.invokevirtual 74, 3) := by decide +kernel
theorem dL_law_695 : decode cL_law 695 = .ok (.aload_n 2, 1) := by decide +kernel
theorem dL_law_696 : decode cL_law 696 = .ok (.aload_n 0, 1) := by decide +kernel
theorem dL_law_697 : decode cL_law 697 = .ok (.iload_n 3, 1) := by decide +kernel
theorem dL_law_698 : decode cL_law 698 = .ok (.iconst 1, 1) := by decide +kernel
theorem dL_law_699 : decode cL_law 699 = .ok (.iadd, 1) := by decide +kernel
theorem dL_law_700 : decode cL_law 700 = .ok (.iaload, 1) := by decide +kernel
theorem dL_law_701 : decode cL_law 701 = .ok (.aload_n 0, 1) := by decide +kernel
theorem dL_law_702 : decode cL_law 702 = .ok (.iload_n 3, 1) := by decide +kernel
theorem dL_law_703 : decode cL_law 703 = .ok (.iconst 2, 1) := by decide +kernel
theorem dL_law_704 : decode cL_law 704 = .ok (.iadd, 1) := by decide +kernel
theorem dL_law_705 : decode cL_law 705 = .ok (.iaload, 1) := by decide +kernel
theorem dL_law_706 : decode cL_law 706 = .ok (.invokevirtual 77, 3) := by decide +kernel
theorem dL_law_709 : decode cL_law 709 = .ok (.if_icmp .eq 171, 3) := by decide +kernel
theorem dL_law_714 : decode cL_law 714 = .ok (.aload_n 1, 1) := by decide +kernel
theorem dL_law_715 : decode cL_law 715 = .ok (.aload_n 0, 1) := by decide +kernel
theorem dL_law_716 : decode cL_law 716 = .ok (.iload_n 3, 1) := by decide +kernel
theorem dL_law_717 : decode cL_law 717 = .ok (.iconst 1, 1) := by decide +kernel
theorem dL_law_718 : decode cL_law 718 = .ok (.iadd, 1) := by decide +kernel
theorem dL_law_719 : decode cL_law 719 = .ok (.iaload, 1) := by decide +kernel
theorem dL_law_720 : decode cL_law 720 = .ok (.invokevirtual 78, 3) := by decide +kernel
theorem dL_law_723 : decode cL_law 723 = .ok (.aload_n 2, 1) := by decide +kernel
theorem dL_law_724 : decode cL_law 724 = .ok (.aload_n 0, 1) := by decide +kernel
theorem dL_law_725 : decode cL_law 725 = .ok (.iload_n 3, 1) := by decide +kernel
theorem dL_law_726 : decode cL_law 726 = .ok (.iconst 1, 1) := by decide +kernel
theorem dL_law_727 : decode cL_law 727 = .ok (.iadd, 1) := by decide +kernel
theorem dL_law_728 : decode cL_law 728 = .ok (.iaload, 1) := by decide +kernel
theorem dL_law_729 : decode cL_law 729 = .ok (.invokevirtual 81, 3) := by decide +kernel
theorem dL_law_732 : decode cL_law 732 = .ok (.if_icmp .eq 148, 3) := by decide +kernel
theorem lmL_51 : Cond.methodLink R_L 51 yX_tick ∈ bigW := bw 426 (by decide +kernel) rfl
theorem lmL_55 : Cond.methodLink R_L 55 yM_tick ∈ bigW := bw 730 (by decide +kernel) rfl
theorem lmL_56 : Cond.methodLink R_L 56 yX_pieces ∈ bigW := bw 538 (by decide +kernel) rfl
theorem lmL_60 : Cond.methodLink R_L 60 yM_pieces ∈ bigW := bw 883 (by decide +kernel) rfl
theorem lmL_61 : Cond.methodLink R_L 61 yX_signals ∈ bigW := bw 542 (by decide +kernel) rfl
theorem lmL_65 : Cond.methodLink R_L 65 yM_signals ∈ bigW := bw 887 (by decide +kernel) rfl
theorem lmL_66 : Cond.methodLink R_L 66 yX_holder ∈ bigW := bw 548 (by decide +kernel) rfl
theorem lmL_69 : Cond.methodLink R_L 69 yM_holder ∈ bigW := bw 891 (by decide +kernel) rfl
theorem lmL_70 : Cond.methodLink R_L 70 yX_toGo ∈ bigW := bw 552 (by decide +kernel) rfl
theorem lmL_73 : Cond.methodLink R_L 73 yM_toGo ∈ bigW := bw 895 (by decide +kernel) rfl
theorem lmL_74 : Cond.methodLink R_L 74 yX_held ∈ bigW := bw 558 (by decide +kernel) rfl
theorem lmL_77 : Cond.methodLink R_L 77 yM_held ∈ bigW := bw 899 (by decide +kernel) rfl
theorem lmL_78 : Cond.methodLink R_L 78 yX_motion ∈ bigW := bw 562 (by decide +kernel) rfl
theorem lmL_81 : Cond.methodLink R_L 81 yM_motion ∈ bigW := bw 903 (by decide +kernel) rfl
theorem miX_tick : MI yX_tick cX_tick 5 (some .int) 1 := ⟨bw 429 (by decide +kernel) rfl, bw 39 (by decide +kernel) rfl, ⟨by decide +kernel, by decide +kernel⟩, by decide +kernel, by decide⟩
theorem mvX_tick : MV yX_tick := ⟨bw 427 (by decide +kernel) rfl, bw 428 (by decide +kernel) rfl⟩
theorem miM_tick : MI yM_tick cM_tick 6 (some .int) 1 := ⟨bw 733 (by decide +kernel) rfl, bw 48 (by decide +kernel) rfl, ⟨by decide +kernel, by decide +kernel⟩, by decide +kernel, by decide⟩
theorem mvM_tick : MV yM_tick := ⟨bw 731 (by decide +kernel) rfl, bw 732 (by decide +kernel) rfl⟩
theorem miX_pieces : MI yX_pieces cX_pieces 3 (some .int) 2 := ⟨bw 541 (by decide +kernel) rfl, bw 39 (by decide +kernel) rfl, ⟨by decide +kernel, by decide +kernel⟩, by decide +kernel, by decide⟩
theorem mvX_pieces : MV yX_pieces := ⟨bw 539 (by decide +kernel) rfl, bw 540 (by decide +kernel) rfl⟩
theorem miM_pieces : MI yM_pieces cM_pieces 5 (some .int) 2 := ⟨bw 886 (by decide +kernel) rfl, bw 48 (by decide +kernel) rfl, ⟨by decide +kernel, by decide +kernel⟩, by decide +kernel, by decide⟩
theorem mvM_pieces : MV yM_pieces := ⟨bw 884 (by decide +kernel) rfl, bw 885 (by decide +kernel) rfl⟩
theorem miX_signals : MI yX_signals cX_signals 7 (some .int) 3 := ⟨bw 545 (by decide +kernel) rfl, bw 39 (by decide +kernel) rfl, ⟨by decide +kernel, by decide +kernel⟩, by decide +kernel, by decide⟩
theorem mvX_signals : MV yX_signals := ⟨bw 543 (by decide +kernel) rfl, bw 544 (by decide +kernel) rfl⟩
theorem miM_signals : MI yM_signals cM_signals 4 (some .int) 3 := ⟨bw 890 (by decide +kernel) rfl, bw 48 (by decide +kernel) rfl, ⟨by decide +kernel, by decide +kernel⟩, by decide +kernel, by decide⟩
theorem mvM_signals : MV yM_signals := ⟨bw 888 (by decide +kernel) rfl, bw 889 (by decide +kernel) rfl⟩
theorem miX_holder : MI yX_holder cX_holder 4 (some .int) 3 := ⟨bw 551 (by decide +kernel) rfl, bw 39 (by decide +kernel) rfl, ⟨by decide +kernel, by decide +kernel⟩, by decide +kernel, by decide⟩
theorem mvX_holder : MV yX_holder := ⟨bw 549 (by decide +kernel) rfl, bw 550 (by decide +kernel) rfl⟩
theorem miM_holder : MI yM_holder cM_holder 6 (some .int) 3 := ⟨bw 894 (by decide +kernel) rfl, bw 48 (by decide +kernel) rfl, ⟨by decide +kernel, by decide +kernel⟩, by decide +kernel, by decide⟩
theorem mvM_holder : MV yM_holder := ⟨bw 892 (by decide +kernel) rfl, bw 893 (by decide +kernel) rfl⟩
theorem miX_toGo : MI yX_toGo cX_toGo 8 (some .int) 5 := ⟨bw 555 (by decide +kernel) rfl, bw 39 (by decide +kernel) rfl, ⟨by decide +kernel, by decide +kernel⟩, by decide +kernel, by decide⟩
theorem mvX_toGo : MV yX_toGo := ⟨bw 553 (by decide +kernel) rfl, bw 554 (by decide +kernel) rfl⟩
theorem miM_toGo : MI yM_toGo cM_toGo 8 (some .int) 5 := ⟨bw 898 (by decide +kernel) rfl, bw 48 (by decide +kernel) rfl, ⟨by decide +kernel, by decide +kernel⟩, by decide +kernel, by decide⟩
theorem mvM_toGo : MV yM_toGo := ⟨bw 896 (by decide +kernel) rfl, bw 897 (by decide +kernel) rfl⟩
theorem miX_held : MI yX_held cX_held 3 (some .int) 2 := ⟨bw 561 (by decide +kernel) rfl, bw 39 (by decide +kernel) rfl, ⟨by decide +kernel, by decide +kernel⟩, by decide +kernel, by decide⟩
theorem mvX_held : MV yX_held := ⟨bw 559 (by decide +kernel) rfl, bw 560 (by decide +kernel) rfl⟩
theorem miM_held : MI yM_held cM_held 5 (some .int) 2 := ⟨bw 902 (by decide +kernel) rfl, bw 48 (by decide +kernel) rfl, ⟨by decide +kernel, by decide +kernel⟩, by decide +kernel, by decide⟩
theorem mvM_held : MV yM_held := ⟨bw 900 (by decide +kernel) rfl, bw 901 (by decide +kernel) rfl⟩
theorem miX_motion : MI yX_motion cX_motion 3 (some .int) 1 := ⟨bw 565 (by decide +kernel) rfl, bw 39 (by decide +kernel) rfl, ⟨by decide +kernel, by decide +kernel⟩, by decide +kernel, by decide⟩
theorem mvX_motion : MV yX_motion := ⟨bw 563 (by decide +kernel) rfl, bw 564 (by decide +kernel) rfl⟩
theorem miM_motion : MI yM_motion cM_motion 2 (some .int) 1 := ⟨bw 906 (by decide +kernel) rfl, bw 48 (by decide +kernel) rfl, ⟨by decide +kernel, by decide +kernel⟩, by decide +kernel, by decide⟩
theorem mvM_motion : MV yM_motion := ⟨bw 904 (by decide +kernel) rfl, bw 905 (by decide +kernel) rfl⟩
theorem st_toGo {n : Int} {z u v : RW} (hz : ST n z) (h : PR u v ∧ frK z u ∧ frA u v ∧ (∀ f, v 77 f = z 77 f) ∧ u 1 = z 1) : ST (n + 1) v := by
  obtain ⟨h1, h2, h3, h4, h5⟩ := h
  refine st_fin hz h2 h3 (h4 0) (h4 1) h1 ?_ ?_
  · rw [h4 25, h5]; exact hz.2.1
  · have := cB_mono hz.2.2.1
    unfold cB at *
    rw [h5]
    exact this
theorem lw_c6 {G : vG} {X : vX} {Q : State → Prop} {sc : Nat → Int32} {N : Nat} {w : RW} {i k : Int} (F : FX G X cL_law R_L 4 9) (hX : SCR G X N sc) (hi : 2 ≤ i ∧ i + 5 < (N : Int)) (hk : 0 ≤ k ∧ k ≤ 520) (hz : ST k w) (K : ∀ v, ST (k + 1) v → V G X 4 Q 880 [some (.inr 903), some (.inr 0), some (.inr 77), some (.inl i)] [] v) : V G X 4 Q 476 [some (.inr 903), some (.inr 0), some (.inr 77), some (.inl i)] [] w := by
  have hN := hX.2.2.2
  have hcc := hz.1.2.1.1
  have hmm := hz.1.2.2.2.1
  refine V_aload_n (i := 1) F dL_law_476 rfl rfl ?_
  refine V_aload_n (i := 0) F dL_law_477 rfl rfl ?_
  refine V_iload_n (i := 3) F dL_law_478 rfl rfl ?_
  refine V_iconst F dL_law_479 (by decide) ?_
  refine V_iadd F dL_law_480 (by omega) ?_
  refine V_scr F hX (by omega) dL_law_481 ?_
  refine V_callVi F dL_law_482 lmL_51 miX_tick mvX_tick (ctX_tick hz.1.2.1 hz.1.2.2.1 (cB_big (by omega) hz.2.2.1)) (by decide) (by first | rfl | assumption) rfl rfl (Nat.le_of_ble_eq_true rfl) (fun r u hr => ?_)
  have hcl := (fun j hj => (cl_tick hr) j (Or.inr hj))
  have hPu := PR_g hz.1 hcl
  have hmu := hPu.2.2.2.1
  refine V_aload_n (i := 2) F dL_law_485 rfl rfl ?_
  refine V_aload_n (i := 0) F dL_law_486 rfl rfl ?_
  refine V_iload_n (i := 3) F dL_law_487 rfl rfl ?_
  refine V_iconst F dL_law_488 (by decide) ?_
  refine V_iadd F dL_law_489 (by omega) ?_
  refine V_scr F hX (by omega) dL_law_490 ?_
  refine V_callVi F dL_law_491 lmL_55 miM_tick mvM_tick (ctM_tick hPu (by rw [hcl 77 (by decide)]; exact hz.2.1) (cB_big (by omega) hz.2.2.1) hr) (by decide) (by first | rfl | assumption) rfl rfl (Nat.le_of_ble_eq_true rfl) (fun r2 v hr2 => ?_)
  have hs := s_tick hz hr hr2
  exact V_icmp_eq F 880 dL_law_494 (by decide) (fun _ => K _ (hs.2)) (fun h => absurd hs.1 h)
theorem lw_c7 {G : vG} {X : vX} {Q : State → Prop} {sc : Nat → Int32} {N : Nat} {w : RW} {i k : Int} (F : FX G X cL_law R_L 4 9) (hX : SCR G X N sc) (hi : 2 ≤ i ∧ i + 5 < (N : Int)) (hk : 0 ≤ k ∧ k ≤ 520) (hz : ST k w) (K : ∀ v, ST (k + 1) v → V G X 4 Q 880 [some (.inr 903), some (.inr 0), some (.inr 77), some (.inl i)] [] v) : V G X 4 Q 499 [some (.inr 903), some (.inr 0), some (.inr 77), some (.inl i)] [] w := by
  have hN := hX.2.2.2
  have hcc := hz.1.2.1.1
  have hmm := hz.1.2.2.2.1
  refine V_aload_n (i := 1) F dL_law_499 rfl rfl ?_
  refine V_aload_n (i := 0) F dL_law_500 rfl rfl ?_
  refine V_iload_n (i := 3) F dL_law_501 rfl rfl ?_
  refine V_iconst F dL_law_502 (by decide) ?_
  refine V_iadd F dL_law_503 (by omega) ?_
  refine V_scr F hX (by omega) dL_law_504 ?_
  refine V_aload_n (i := 0) F dL_law_505 rfl rfl ?_
  refine V_iload_n (i := 3) F dL_law_506 rfl rfl ?_
  refine V_iconst F dL_law_507 (by decide) ?_
  refine V_iadd F dL_law_508 (by omega) ?_
  refine V_scr F hX (by omega) dL_law_509 ?_
  refine V_callVi F dL_law_510 lmL_56 miX_pieces mvX_pieces (ctX_pieces hcc) (by decide) (by first | rfl | assumption) rfl rfl (Nat.le_of_ble_eq_true rfl) (fun r u hr => ?_)
  obtain ⟨rfl, rfl⟩ := hr
  refine V_aload_n (i := 2) F dL_law_513 rfl rfl ?_
  refine V_aload_n (i := 0) F dL_law_514 rfl rfl ?_
  refine V_iload_n (i := 3) F dL_law_515 rfl rfl ?_
  refine V_iconst F dL_law_516 (by decide) ?_
  refine V_iadd F dL_law_517 (by omega) ?_
  refine V_scr F hX (by omega) dL_law_518 ?_
  refine V_aload_n (i := 0) F dL_law_519 rfl rfl ?_
  refine V_iload_n (i := 3) F dL_law_520 rfl rfl ?_
  refine V_iconst F dL_law_521 (by decide) ?_
  refine V_iadd F dL_law_522 (by omega) ?_
  refine V_scr F hX (by omega) dL_law_523 ?_
  refine V_callVi F dL_law_524 lmL_60 miM_pieces mvM_pieces (ctM_pieces hmm) (by decide) (by first | rfl | assumption) rfl rfl (Nat.le_of_ble_eq_true rfl) (fun r u hr => ?_)
  obtain ⟨rfl, rfl⟩ := hr
  exact V_icmp_eq F 880 dL_law_527 (by decide) (fun _ => K _ (ST_mono hz)) (fun h => absurd (q_pieces hz.1.1 hz.1.2.1 hmm) h)
theorem lw_c8 {G : vG} {X : vX} {Q : State → Prop} {sc : Nat → Int32} {N : Nat} {w : RW} {i k : Int} (F : FX G X cL_law R_L 4 9) (hX : SCR G X N sc) (hi : 2 ≤ i ∧ i + 5 < (N : Int)) (hk : 0 ≤ k ∧ k ≤ 520) (hz : ST k w) (K : ∀ v, ST (k + 1) v → V G X 4 Q 880 [some (.inr 903), some (.inr 0), some (.inr 77), some (.inl i)] [] v) : V G X 4 Q 532 [some (.inr 903), some (.inr 0), some (.inr 77), some (.inl i)] [] w := by
  have hN := hX.2.2.2
  have hcc := hz.1.2.1.1
  have hmm := hz.1.2.2.2.1
  refine V_aload_n (i := 1) F dL_law_532 rfl rfl ?_
  refine V_aload_n (i := 0) F dL_law_533 rfl rfl ?_
  refine V_iload_n (i := 3) F dL_law_534 rfl rfl ?_
  refine V_iconst F dL_law_535 (by decide) ?_
  refine V_iadd F dL_law_536 (by omega) ?_
  refine V_scr F hX (by omega) dL_law_537 ?_
  refine V_aload_n (i := 0) F dL_law_538 rfl rfl ?_
  refine V_iload_n (i := 3) F dL_law_539 rfl rfl ?_
  refine V_iconst F dL_law_540 (by decide) ?_
  refine V_iadd F dL_law_541 (by omega) ?_
  refine V_scr F hX (by omega) dL_law_542 ?_
  refine V_aload_n (i := 0) F dL_law_543 rfl rfl ?_
  refine V_iload_n (i := 3) F dL_law_544 rfl rfl ?_
  refine V_iconst F dL_law_545 (by decide) ?_
  refine V_iadd F dL_law_546 (by omega) ?_
  refine V_scr F hX (by omega) dL_law_547 ?_
  refine V_callVi F dL_law_548 lmL_61 miX_signals mvX_signals (ctX_signals hcc) (by decide) (by first | rfl | assumption) rfl rfl (Nat.le_of_ble_eq_true rfl) (fun r u hr => ?_)
  obtain ⟨rfl, rfl⟩ := hr
  refine V_aload_n (i := 2) F dL_law_551 rfl rfl ?_
  refine V_aload_n (i := 0) F dL_law_552 rfl rfl ?_
  refine V_iload_n (i := 3) F dL_law_553 rfl rfl ?_
  refine V_iconst F dL_law_554 (by decide) ?_
  refine V_iadd F dL_law_555 (by omega) ?_
  refine V_scr F hX (by omega) dL_law_556 ?_
  refine V_aload_n (i := 0) F dL_law_557 rfl rfl ?_
  refine V_iload_n (i := 3) F dL_law_558 rfl rfl ?_
  refine V_iconst F dL_law_559 (by decide) ?_
  refine V_iadd F dL_law_560 (by omega) ?_
  refine V_scr F hX (by omega) dL_law_561 ?_
  refine V_aload_n (i := 0) F dL_law_562 rfl rfl ?_
  refine V_iload_n (i := 3) F dL_law_563 rfl rfl ?_
  refine V_iconst F dL_law_564 (by decide) ?_
  refine V_iadd F dL_law_565 (by omega) ?_
  refine V_scr F hX (by omega) dL_law_566 ?_
  refine V_callVi F dL_law_567 lmL_65 miM_signals mvM_signals (ctM_signals hmm) (by decide) (by first | rfl | assumption) rfl rfl (Nat.le_of_ble_eq_true rfl) (fun r u hr => ?_)
  obtain ⟨rfl, rfl⟩ := hr
  exact V_icmp_eq F 880 dL_law_570 (by decide) (fun _ => K _ (ST_mono hz)) (fun h => absurd (q_signals hz.1.1 hz.1.2.1 hmm) h)
theorem lw_c9 {G : vG} {X : vX} {Q : State → Prop} {sc : Nat → Int32} {N : Nat} {w : RW} {i k : Int} (F : FX G X cL_law R_L 4 9) (hX : SCR G X N sc) (hi : 2 ≤ i ∧ i + 5 < (N : Int)) (hk : 0 ≤ k ∧ k ≤ 520) (hz : ST k w) (K : ∀ v, ST (k + 1) v → V G X 4 Q 880 [some (.inr 903), some (.inr 0), some (.inr 77), some (.inl i)] [] v) : V G X 4 Q 575 [some (.inr 903), some (.inr 0), some (.inr 77), some (.inl i)] [] w := by
  have hN := hX.2.2.2
  have hcc := hz.1.2.1.1
  have hmm := hz.1.2.2.2.1
  refine V_aload_n (i := 1) F dL_law_575 rfl rfl ?_
  refine V_aload_n (i := 0) F dL_law_576 rfl rfl ?_
  refine V_iload_n (i := 3) F dL_law_577 rfl rfl ?_
  refine V_iconst F dL_law_578 (by decide) ?_
  refine V_iadd F dL_law_579 (by omega) ?_
  refine V_scr F hX (by omega) dL_law_580 ?_
  refine V_aload_n (i := 0) F dL_law_581 rfl rfl ?_
  refine V_iload_n (i := 3) F dL_law_582 rfl rfl ?_
  refine V_iconst F dL_law_583 (by decide) ?_
  refine V_iadd F dL_law_584 (by omega) ?_
  refine V_scr F hX (by omega) dL_law_585 ?_
  refine V_aload_n (i := 0) F dL_law_586 rfl rfl ?_
  refine V_iload_n (i := 3) F dL_law_587 rfl rfl ?_
  refine V_iconst F dL_law_588 (by decide) ?_
  refine V_iadd F dL_law_589 (by omega) ?_
  refine V_scr F hX (by omega) dL_law_590 ?_
  refine V_callVi F dL_law_591 lmL_66 miX_holder mvX_holder (ctX_holder hcc) (by decide) (by first | rfl | assumption) rfl rfl (Nat.le_of_ble_eq_true rfl) (fun r u hr => ?_)
  obtain ⟨rfl, rfl⟩ := hr
  refine V_aload_n (i := 2) F dL_law_594 rfl rfl ?_
  refine V_aload_n (i := 0) F dL_law_595 rfl rfl ?_
  refine V_iload_n (i := 3) F dL_law_596 rfl rfl ?_
  refine V_iconst F dL_law_597 (by decide) ?_
  refine V_iadd F dL_law_598 (by omega) ?_
  refine V_scr F hX (by omega) dL_law_599 ?_
  refine V_aload_n (i := 0) F dL_law_600 rfl rfl ?_
  refine V_iload_n (i := 3) F dL_law_601 rfl rfl ?_
  refine V_iconst F dL_law_602 (by decide) ?_
  refine V_iadd F dL_law_603 (by omega) ?_
  refine V_scr F hX (by omega) dL_law_604 ?_
  refine V_aload_n (i := 0) F dL_law_605 rfl rfl ?_
  refine V_iload_n (i := 3) F dL_law_606 rfl rfl ?_
  refine V_iconst F dL_law_607 (by decide) ?_
  refine V_iadd F dL_law_608 (by omega) ?_
  refine V_scr F hX (by omega) dL_law_609 ?_
  refine V_callVi F dL_law_610 lmL_69 miM_holder mvM_holder (ctM_holder hmm) (by decide) (by first | rfl | assumption) rfl rfl (Nat.le_of_ble_eq_true rfl) (fun r2 v hr2 => ?_)
  have hwv := hr2.2
  subst hwv
  exact V_icmp_eq F 880 dL_law_613 (by decide) (fun _ => K _ (ST_mono hz)) (fun h => absurd (q_holder hz.1.1 hz.1.2.1 hmm hr2.1) h)
theorem lw_c10 {G : vG} {X : vX} {Q : State → Prop} {sc : Nat → Int32} {N : Nat} {w : RW} {i k : Int} (F : FX G X cL_law R_L 4 9) (hX : SCR G X N sc) (hi : 2 ≤ i ∧ i + 5 < (N : Int)) (hk : 0 ≤ k ∧ k ≤ 520) (hz : ST k w) (K : ∀ v, ST (k + 1) v → V G X 4 Q 880 [some (.inr 903), some (.inr 0), some (.inr 77), some (.inl i)] [] v) : V G X 4 Q 618 [some (.inr 903), some (.inr 0), some (.inr 77), some (.inl i)] [] w := by
  have hN := hX.2.2.2
  have hcc := hz.1.2.1.1
  have hmm := hz.1.2.2.2.1
  refine V_aload_n (i := 1) F dL_law_618 rfl rfl ?_
  refine V_aload_n (i := 0) F dL_law_619 rfl rfl ?_
  refine V_iload_n (i := 3) F dL_law_620 rfl rfl ?_
  refine V_iconst F dL_law_621 (by decide) ?_
  refine V_iadd F dL_law_622 (by omega) ?_
  refine V_scr F hX (by omega) dL_law_623 ?_
  refine V_aload_n (i := 0) F dL_law_624 rfl rfl ?_
  refine V_iload_n (i := 3) F dL_law_625 rfl rfl ?_
  refine V_iconst F dL_law_626 (by decide) ?_
  refine V_iadd F dL_law_627 (by omega) ?_
  refine V_scr F hX (by omega) dL_law_628 ?_
  refine V_aload_n (i := 0) F dL_law_629 rfl rfl ?_
  refine V_iload_n (i := 3) F dL_law_630 rfl rfl ?_
  refine V_iconst F dL_law_631 (by decide) ?_
  refine V_iadd F dL_law_632 (by omega) ?_
  refine V_scr F hX (by omega) dL_law_633 ?_
  refine V_aload_n (i := 0) F dL_law_634 rfl rfl ?_
  refine V_iload_n (i := 3) F dL_law_635 rfl rfl ?_
  refine V_iconst F dL_law_636 (by decide) ?_
  refine V_iadd F dL_law_637 (by omega) ?_
  refine V_scr F hX (by omega) dL_law_638 ?_
  refine V_aload_n (i := 0) F dL_law_639 rfl rfl ?_
  refine V_iload_n (i := 3) F dL_law_640 rfl rfl ?_
  refine V_iconst F dL_law_641 (by decide) ?_
  refine V_iadd F dL_law_642 (by omega) ?_
  refine V_scr F hX (by omega) dL_law_643 ?_
  refine V_callVi F dL_law_644 lmL_70 miX_toGo mvX_toGo (ctX_toGo hz.1.2.2.1 hcc) (by decide) (by first | rfl | assumption) rfl rfl (Nat.le_of_ble_eq_true rfl) (fun r u hr => ?_)
  have hcl := cl_toGo hcc hr
  have hPu := PR_g hz.1 hcl
  have hmu := hPu.2.2.2.1
  refine V_aload_n (i := 2) F dL_law_647 rfl rfl ?_
  refine V_aload_n (i := 0) F dL_law_648 rfl rfl ?_
  refine V_iload_n (i := 3) F dL_law_649 rfl rfl ?_
  refine V_iconst F dL_law_650 (by decide) ?_
  refine V_iadd F dL_law_651 (by omega) ?_
  refine V_scr F hX (by omega) dL_law_652 ?_
  refine V_aload_n (i := 0) F dL_law_653 rfl rfl ?_
  refine V_iload_n (i := 3) F dL_law_654 rfl rfl ?_
  refine V_iconst F dL_law_655 (by decide) ?_
  refine V_iadd F dL_law_656 (by omega) ?_
  refine V_scr F hX (by omega) dL_law_657 ?_
  refine V_aload_n (i := 0) F dL_law_658 rfl rfl ?_
  refine V_iload_n (i := 3) F dL_law_659 rfl rfl ?_
  refine V_iconst F dL_law_660 (by decide) ?_
  refine V_iadd F dL_law_661 (by omega) ?_
  refine V_scr F hX (by omega) dL_law_662 ?_
  refine V_aload_n (i := 0) F dL_law_663 rfl rfl ?_
  refine V_iload_n (i := 3) F dL_law_664 rfl rfl ?_
  refine V_iconst F dL_law_665 (by decide) ?_
  refine V_iadd F dL_law_666 (by omega) ?_
  refine V_scr F hX (by omega) dL_law_667 ?_
  refine V_aload_n (i := 0) F dL_law_668 rfl rfl ?_
  refine V_iload_n (i := 3) F dL_law_669 rfl rfl ?_
  refine V_iconst F dL_law_670 (by decide) ?_
  refine V_iadd F dL_law_671 (by omega) ?_
  refine V_scr F hX (by omega) dL_law_672 ?_
  refine V_callVi F dL_law_673 lmL_73 miM_toGo mvM_toGo (ctM_toGo hmu hPu.2.2.2.2) (by decide) (by first | rfl | assumption) rfl rfl (Nat.le_of_ble_eq_true rfl) (fun r2 v hr2 => ?_)
  have hs := s_toGo hz.1 hr hr2
  exact V_icmp_eq F 880 dL_law_676 (by decide) (fun _ => K _ (st_toGo hz hs.2)) (fun h => absurd hs.1 h)
theorem lw_c11 {G : vG} {X : vX} {Q : State → Prop} {sc : Nat → Int32} {N : Nat} {w : RW} {i k : Int} (F : FX G X cL_law R_L 4 9) (hX : SCR G X N sc) (hi : 2 ≤ i ∧ i + 5 < (N : Int)) (hk : 0 ≤ k ∧ k ≤ 520) (hz : ST k w) (K : ∀ v, ST (k + 1) v → V G X 4 Q 880 [some (.inr 903), some (.inr 0), some (.inr 77), some (.inl i)] [] v) : V G X 4 Q 681 [some (.inr 903), some (.inr 0), some (.inr 77), some (.inl i)] [] w := by
  have hN := hX.2.2.2
  have hcc := hz.1.2.1.1
  have hmm := hz.1.2.2.2.1
  refine V_aload_n (i := 1) F dL_law_681 rfl rfl ?_
  refine V_aload_n (i := 0) F dL_law_682 rfl rfl ?_
  refine V_iload_n (i := 3) F dL_law_683 rfl rfl ?_
  refine V_iconst F dL_law_684 (by decide) ?_
  refine V_iadd F dL_law_685 (by omega) ?_
  refine V_scr F hX (by omega) dL_law_686 ?_
  refine V_aload_n (i := 0) F dL_law_687 rfl rfl ?_
  refine V_iload_n (i := 3) F dL_law_688 rfl rfl ?_
  refine V_iconst F dL_law_689 (by decide) ?_
  refine V_iadd F dL_law_690 (by omega) ?_
  refine V_scr F hX (by omega) dL_law_691 ?_
  refine V_callVi F dL_law_692 lmL_74 miX_held mvX_held (ctX_held hcc) (by decide) (by first | rfl | assumption) rfl rfl (Nat.le_of_ble_eq_true rfl) (fun r u hr => ?_)
  obtain ⟨rfl, rfl⟩ := hr
  refine V_aload_n (i := 2) F dL_law_695 rfl rfl ?_
  refine V_aload_n (i := 0) F dL_law_696 rfl rfl ?_
  refine V_iload_n (i := 3) F dL_law_697 rfl rfl ?_
  refine V_iconst F dL_law_698 (by decide) ?_
  refine V_iadd F dL_law_699 (by omega) ?_
  refine V_scr F hX (by omega) dL_law_700 ?_
  refine V_aload_n (i := 0) F dL_law_701 rfl rfl ?_
  refine V_iload_n (i := 3) F dL_law_702 rfl rfl ?_
  refine V_iconst F dL_law_703 (by decide) ?_
  refine V_iadd F dL_law_704 (by omega) ?_
  refine V_scr F hX (by omega) dL_law_705 ?_
  refine V_callVi F dL_law_706 lmL_77 miM_held mvM_held (ctM_held hmm) (by decide) (by first | rfl | assumption) rfl rfl (Nat.le_of_ble_eq_true rfl) (fun r u hr => ?_)
  obtain ⟨rfl, rfl⟩ := hr
  exact V_icmp_eq F 880 dL_law_709 (by decide) (fun _ => K _ (ST_mono hz)) (fun h => absurd (q_held hz.1.1 hz.1.2.1 hmm) h)
theorem lw_c12 {G : vG} {X : vX} {Q : State → Prop} {sc : Nat → Int32} {N : Nat} {w : RW} {i k : Int} (F : FX G X cL_law R_L 4 9) (hX : SCR G X N sc) (hi : 2 ≤ i ∧ i + 5 < (N : Int)) (hk : 0 ≤ k ∧ k ≤ 520) (hz : ST k w) (K : ∀ v, ST (k + 1) v → V G X 4 Q 880 [some (.inr 903), some (.inr 0), some (.inr 77), some (.inl i)] [] v) : V G X 4 Q 714 [some (.inr 903), some (.inr 0), some (.inr 77), some (.inl i)] [] w := by
  have hN := hX.2.2.2
  have hcc := hz.1.2.1.1
  have hmm := hz.1.2.2.2.1
  refine V_aload_n (i := 1) F dL_law_714 rfl rfl ?_
  refine V_aload_n (i := 0) F dL_law_715 rfl rfl ?_
  refine V_iload_n (i := 3) F dL_law_716 rfl rfl ?_
  refine V_iconst F dL_law_717 (by decide) ?_
  refine V_iadd F dL_law_718 (by omega) ?_
  refine V_scr F hX (by omega) dL_law_719 ?_
  refine V_callVi F dL_law_720 lmL_78 miX_motion mvX_motion (ctX_motion hcc) (by decide) (by first | rfl | assumption) rfl rfl (Nat.le_of_ble_eq_true rfl) (fun r u hr => ?_)
  obtain ⟨rfl, rfl⟩ := hr
  refine V_aload_n (i := 2) F dL_law_723 rfl rfl ?_
  refine V_aload_n (i := 0) F dL_law_724 rfl rfl ?_
  refine V_iload_n (i := 3) F dL_law_725 rfl rfl ?_
  refine V_iconst F dL_law_726 (by decide) ?_
  refine V_iadd F dL_law_727 (by omega) ?_
  refine V_scr F hX (by omega) dL_law_728 ?_
  refine V_callVi F dL_law_729 lmL_81 miM_motion mvM_motion (ctM_motion hmm) (by decide) (by first | rfl | assumption) rfl rfl (Nat.le_of_ble_eq_true rfl) (fun r u hr => ?_)
  obtain ⟨rfl, rfl⟩ := hr
  exact V_icmp_eq F 880 dL_law_732 (by decide) (fun _ => K _ (ST_mono hz)) (fun h => absurd (q_motion hz.1.1 hz.1.2.1 hmm) h)
