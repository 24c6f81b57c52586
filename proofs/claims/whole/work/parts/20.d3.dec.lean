/-! The law: what stands at its places, 3. -/
theorem dC_531 : decode code 531 = .ok (.iaload, 1) := by decide +kernel
theorem dC_532 : decode code 532 = .ok (.aload_n 0, 1) := by decide +kernel
theorem dC_533 : decode code 533 = .ok (.iload 5, 2) := by decide +kernel
theorem dC_535 : decode code 535 = .ok (.iconst 3, 1) := by decide +kernel
theorem dC_536 : decode code 536 = .ok (.iadd, 1) := by decide +kernel
theorem dC_537 : decode code 537 = .ok (.iaload, 1) := by decide +kernel
theorem dC_538 : decode code 538 = .ok (.invokevirtual 131, 3) := by decide +kernel
theorem dC_541 : decode code 541 = .ok (.aload_n 2, 1) := by decide +kernel
theorem dC_542 : decode code 542 = .ok (.invokevirtual 110, 3) := by decide +kernel
theorem dC_545 : decode code 545 = .ok (.iload 6, 2) := by decide +kernel
theorem dC_547 : decode code 547 = .ok (.if_icmp .eq 5, 3) := by decide +kernel
theorem dC_552 : decode code 552 = .ok (.goto 1199, 3) := by decide +kernel
theorem dC_555 : decode code 555 = .ok (.aload_n 1, 1) := by decide +kernel
theorem dC_556 : decode code 556 = .ok (.aload_n 0, 1) := by decide +kernel
theorem dC_557 : decode code 557 = .ok (.iload 5, 2) := by decide +kernel
theorem dC_559 : decode code 559 = .ok (.iconst 1, 1) := by decide +kernel
theorem dC_560 : decode code 560 = .ok (.iadd, 1) := by decide +kernel
theorem dC_561 : decode code 561 = .ok (.iaload, 1) := by decide +kernel
theorem dC_562 : decode code 562 = .ok (.aload_n 0, 1) := by decide +kernel
theorem dC_563 : decode code 563 = .ok (.iload 5, 2) := by decide +kernel
theorem dC_565 : decode code 565 = .ok (.iconst 2, 1) := by decide +kernel
theorem dC_566 : decode code 566 = .ok (.iadd, 1) := by decide +kernel
theorem dC_567 : decode code 567 = .ok (.iaload, 1) := by decide +kernel
theorem dC_568 : decode code 568 = .ok (.aload_n 3, 1) := by decide +kernel
theorem dC_569 : decode code 569 = .ok (.invokestatic 132, 3) := by decide +kernel
theorem dC_572 : decode code 572 = .ok (.istore 6, 2) := by decide +kernel
theorem dC_574 : decode code 574 = .ok (.aload_n 2, 1) := by decide +kernel
theorem dC_575 : decode code 575 = .ok (.aload_n 0, 1) := by decide +kernel
theorem dC_576 : decode code 576 = .ok (.iload 5, 2) := by decide +kernel
theorem dC_578 : decode code 578 = .ok (.iconst 1, 1) := by decide +kernel
theorem dC_579 : decode code 579 = .ok (.iadd, 1) := by decide +kernel
theorem dC_580 : decode code 580 = .ok (.iaload, 1) := by decide +kernel
theorem dC_581 : decode code 581 = .ok (.aload_n 0, 1) := by decide +kernel
theorem dC_582 : decode code 582 = .ok (.iload 5, 2) := by decide +kernel
theorem dC_584 : decode code 584 = .ok (.iconst 2, 1) := by decide +kernel
theorem dC_585 : decode code 585 = .ok (.iadd, 1) := by decide +kernel
theorem dC_586 : decode code 586 = .ok (.iaload, 1) := by decide +kernel
theorem dC_587 : decode code 587 = .ok (.invokevirtual 134, 3) := by decide +kernel
theorem dC_590 : decode code 590 = .ok (.istore 7, 2) := by decide +kernel
theorem dC_592 : decode code 592 = .ok (.aload_n 2, 1) := by decide +kernel
theorem dC_593 : decode code 593 = .ok (.invokevirtual 110, 3) := by decide +kernel
theorem dC_596 : decode code 596 = .ok (.iload 6, 2) := by decide +kernel
theorem dC_598 : decode code 598 = .ok (.if_icmp .eq 5, 3) := by decide +kernel
theorem dC_603 : decode code 603 = .ok (.iload 6, 2) := by decide +kernel
theorem dC_605 : decode code 605 = .ok (.ifCond .ne 22, 3) := by decide +kernel
theorem dC_608 : decode code 608 = .ok (.aload_n 3, 1) := by decide +kernel
theorem dC_609 : decode code 609 = .ok (.iconst 0, 1) := by decide +kernel
theorem dC_610 : decode code 610 = .ok (.laload, 1) := by decide +kernel
theorem dC_611 : decode code 611 = .ok (.iload 7, 2) := by decide +kernel
theorem dC_613 : decode code 613 = .ok (.ifCond .eq 7, 3) := by decide +kernel
theorem dC_616 : decode code 616 = .ok (.lconst 1, 1) := by decide +kernel
theorem dC_617 : decode code 617 = .ok (.goto 4, 3) := by decide +kernel
theorem dC_620 : decode code 620 = .ok (.lconst 0, 1) := by decide +kernel
theorem dC_621 : decode code 621 = .ok (.lcmp, 1) := by decide +kernel
theorem dC_622 : decode code 622 = .ok (.ifCond .eq 5, 3) := by decide +kernel
theorem dC_627 : decode code 627 = .ok (.goto 1124, 3) := by decide +kernel
theorem dC_630 : decode code 630 = .ok (.aload_n 1, 1) := by decide +kernel
theorem dC_631 : decode code 631 = .ok (.aload_n 0, 1) := by decide +kernel
theorem dC_632 : decode code 632 = .ok (.iload 5, 2) := by decide +kernel
theorem dC_634 : decode code 634 = .ok (.iconst 1, 1) := by decide +kernel
theorem dC_635 : decode code 635 = .ok (.iadd, 1) := by decide +kernel
theorem dC_636 : decode code 636 = .ok (.iaload, 1) := by decide +kernel
theorem dC_637 : decode code 637 = .ok (.aload_n 0, 1) := by decide +kernel
theorem dC_638 : decode code 638 = .ok (.iload 5, 2) := by decide +kernel
theorem dC_640 : decode code 640 = .ok (.iconst 2, 1) := by decide +kernel
theorem dC_641 : decode code 641 = .ok (.iadd, 1) := by decide +kernel
theorem dC_642 : decode code 642 = .ok (.iaload, 1) := by decide +kernel
theorem dC_643 : decode code 643 = .ok (.aload_n 0, 1) := by decide +kernel
theorem dC_644 : decode code 644 = .ok (.iload 5, 2) := by decide +kernel
theorem dC_646 : decode code 646 = .ok (.iconst 3, 1) := by decide +kernel
theorem dC_647 : decode code 647 = .ok (.iadd, 1) := by decide +kernel
theorem dC_648 : decode code 648 = .ok (.iaload, 1) := by decide +kernel
theorem dC_649 : decode code 649 = .ok (.aload_n 0, 1) := by decide +kernel
theorem dC_650 : decode code 650 = .ok (.iload 5, 2) := by decide +kernel
theorem dC_652 : decode code 652 = .ok (.iconst 4, 1) := by decide +kernel
theorem dC_653 : decode code 653 = .ok (.iadd, 1) := by decide +kernel
theorem dC_654 : decode code 654 = .ok (.iaload, 1) := by decide +kernel
theorem dC_655 : decode code 655 = .ok (.aload_n 3, 1) := by decide +kernel
theorem dC_656 : decode code 656 = .ok (.invokestatic 135, 3) := by decide +kernel
theorem dC_659 : decode code 659 = .ok (.istore 6, 2) := by decide +kernel
theorem dC_661 : decode code 661 = .ok (.aload_n 2, 1) := by decide +kernel
theorem dC_662 : decode code 662 = .ok (.aload_n 0, 1) := by decide +kernel
theorem dC_663 : decode code 663 = .ok (.iload 5, 2) := by decide +kernel
theorem dC_665 : decode code 665 = .ok (.iconst 1, 1) := by decide +kernel
theorem dC_666 : decode code 666 = .ok (.iadd, 1) := by decide +kernel
theorem dC_667 : decode code 667 = .ok (.iaload, 1) := by decide +kernel
theorem dC_668 : decode code 668 = .ok (.aload_n 0, 1) := by decide +kernel
theorem dC_669 : decode code 669 = .ok (.iload 5, 2) := by decide +kernel
theorem dC_671 : decode code 671 = .ok (.iconst 2, 1) := by decide +kernel
theorem dC_672 : decode code 672 = .ok (.iadd, 1) := by decide +kernel
theorem dC_673 : decode code 673 = .ok (.iaload, 1) := by decide +kernel
theorem dC_674 : decode code 674 = .ok (.aload_n 0, 1) := by decide +kernel
theorem dC_675 : decode code 675 = .ok (.iload 5, 2) := by decide +kernel
theorem dC_677 : decode code 677 = .ok (.iconst 3, 1) := by decide +kernel
theorem dC_678 : decode code 678 = .ok (.iadd, 1) := by decide +kernel
theorem dC_679 : decode code 679 = .ok (.iaload, 1) := by decide +kernel
theorem dC_680 : decode code 680 = .ok (.aload_n 0, 1) := by decide +kernel
theorem dC_681 : decode code 681 = .ok (.iload 5, 2) := by decide +kernel
theorem dC_683 : decode code 683 = .ok (.iconst 4, 1) := by decide +kernel
theorem dC_684 : decode code 684 = .ok (.iadd, 1) := by decide +kernel
theorem dC_685 : decode code 685 = .ok (.iaload, 1) := by decide +kernel
theorem dC_686 : decode code 686 = .ok (.invokevirtual 138, 3) := by decide +kernel
theorem dC_689 : decode code 689 = .ok (.istore 7, 2) := by decide +kernel
theorem dC_691 : decode code 691 = .ok (.aload_n 2, 1) := by decide +kernel
theorem dC_692 : decode code 692 = .ok (.invokevirtual 110, 3) := by decide +kernel
theorem dC_695 : decode code 695 = .ok (.iload 6, 2) := by decide +kernel
theorem dC_697 : decode code 697 = .ok (.if_icmp .eq 5, 3) := by decide +kernel
theorem dC_702 : decode code 702 = .ok (.iload 6, 2) := by decide +kernel
theorem dC_704 : decode code 704 = .ok (.ifCond .ne 15, 3) := by decide +kernel
theorem dC_707 : decode code 707 = .ok (.aload_n 3, 1) := by decide +kernel
theorem dC_708 : decode code 708 = .ok (.iconst 0, 1) := by decide +kernel
theorem dC_709 : decode code 709 = .ok (.laload, 1) := by decide +kernel
theorem dC_710 : decode code 710 = .ok (.iload 7, 2) := by decide +kernel
theorem dC_712 : decode code 712 = .ok (.i2l, 1) := by decide +kernel
theorem dC_713 : decode code 713 = .ok (.lcmp, 1) := by decide +kernel
theorem dC_714 : decode code 714 = .ok (.ifCond .eq 5, 3) := by decide +kernel
theorem dC_719 : decode code 719 = .ok (.goto 1032, 3) := by decide +kernel
theorem dC_722 : decode code 722 = .ok (.aload_n 1, 1) := by decide +kernel
theorem dC_723 : decode code 723 = .ok (.aload_n 0, 1) := by decide +kernel
theorem dC_724 : decode code 724 = .ok (.iload 5, 2) := by decide +kernel
theorem dC_726 : decode code 726 = .ok (.iconst 1, 1) := by decide +kernel
theorem dC_727 : decode code 727 = .ok (.iadd, 1) := by decide +kernel
theorem dC_728 : decode code 728 = .ok (.iaload, 1) := by decide +kernel
theorem dC_729 : decode code 729 = .ok (.invokestatic 139, 3) := by decide +kernel
theorem dC_732 : decode code 732 = .ok (.istore 6, 2) := by decide +kernel
theorem dC_734 : decode code 734 = .ok (.aload_n 2, 1) := by decide +kernel
theorem dC_735 : decode code 735 = .ok (.aload_n 0, 1) := by decide +kernel
theorem dC_736 : decode code 736 = .ok (.iload 5, 2) := by decide +kernel
theorem dC_738 : decode code 738 = .ok (.iconst 1, 1) := by decide +kernel
theorem dC_739 : decode code 739 = .ok (.iadd, 1) := by decide +kernel
