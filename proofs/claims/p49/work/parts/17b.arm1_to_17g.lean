section
/-! 17b.arm1.lean.txt -/
theorem dL_law_537 : decode cL_law 537 = .ok (.aload_n 1, 1) := de_43 (lb_33 (j := 9) (b := 43) rfl)
theorem dL_law_538 : decode cL_law 538 = .ok (.invokevirtual 227, 3) := de_182 (lb_33 (j := 10) (b := 182) rfl) (lb_33 (j := 11) (b := 0) rfl) (lb_33 (j := 12) (b := 227) rfl) rfl
theorem dL_law_541 : decode cL_law 541 = .ok (.pop, 1) := de_87 (lb_33 (j := 13) (b := 87) rfl)
theorem dL_law_542 : decode cL_law 542 = .ok (.aload_n 2, 1) := de_44 (lb_33 (j := 14) (b := 44) rfl)
theorem dL_law_543 : decode cL_law 543 = .ok (.invokevirtual 230, 3) := de_182 (lb_33 (j := 15) (b := 182) rfl) (lb_34 (j := 0) (b := 0) rfl) (lb_34 (j := 1) (b := 230) rfl) rfl
theorem dL_law_546 : decode cL_law 546 = .ok (.pop, 1) := de_87 (lb_34 (j := 2) (b := 87) rfl)
theorem dL_law_547 : decode cL_law 547 = .ok (.goto 1892, 3) := de_167 (lb_34 (j := 3) (b := 167) rfl) (lb_34 (j := 4) (b := 7) rfl) (lb_34 (j := 5) (b := 100) rfl) (by decide +kernel)
theorem dL_law_550 : decode cL_law 550 = .ok (.aload_n 1, 1) := de_43 (lb_34 (j := 6) (b := 43) rfl)
theorem dL_law_551 : decode cL_law 551 = .ok (.invokevirtual 231, 3) := de_182 (lb_34 (j := 7) (b := 182) rfl) (lb_34 (j := 8) (b := 0) rfl) (lb_34 (j := 9) (b := 231) rfl) rfl
theorem dL_law_554 : decode cL_law 554 = .ok (.pop, 1) := de_87 (lb_34 (j := 10) (b := 87) rfl)
theorem dL_law_555 : decode cL_law 555 = .ok (.aload_n 2, 1) := de_44 (lb_34 (j := 11) (b := 44) rfl)
theorem dL_law_556 : decode cL_law 556 = .ok (.invokevirtual 234, 3) := de_182 (lb_34 (j := 12) (b := 182) rfl) (lb_34 (j := 13) (b := 0) rfl) (lb_34 (j := 14) (b := 234) rfl) rfl
theorem dL_law_559 : decode cL_law 559 = .ok (.pop, 1) := de_87 (lb_34 (j := 15) (b := 87) rfl)
theorem dL_law_560 : decode cL_law 560 = .ok (.goto 1879, 3) := de_167 (lb_35 (j := 0) (b := 167) rfl) (lb_35 (j := 1) (b := 7) rfl) (lb_35 (j := 2) (b := 87) rfl) (by decide +kernel)
theorem dL_law_563 : decode cL_law 563 = .ok (.aload_n 1, 1) := de_43 (lb_35 (j := 3) (b := 43) rfl)
theorem dL_law_564 : decode cL_law 564 = .ok (.aload_n 0, 1) := de_42 (lb_35 (j := 4) (b := 42) rfl)
theorem dL_law_565 : decode cL_law 565 = .ok (.iload 5, 2) := de_21 (lb_35 (j := 5) (b := 21) rfl) (lb_35 (j := 6) (b := 5) rfl) rfl
theorem dL_law_567 : decode cL_law 567 = .ok (.iconst 1, 1) := de_4 (lb_35 (j := 7) (b := 4) rfl)
theorem dL_law_568 : decode cL_law 568 = .ok (.iadd, 1) := de_96 (lb_35 (j := 8) (b := 96) rfl)
theorem dL_law_569 : decode cL_law 569 = .ok (.iaload, 1) := de_46 (lb_35 (j := 9) (b := 46) rfl)
theorem dL_law_570 : decode cL_law 570 = .ok (.aload_n 0, 1) := de_42 (lb_35 (j := 10) (b := 42) rfl)
theorem dL_law_571 : decode cL_law 571 = .ok (.iload 5, 2) := de_21 (lb_35 (j := 11) (b := 21) rfl) (lb_35 (j := 12) (b := 5) rfl) rfl
theorem dL_law_573 : decode cL_law 573 = .ok (.iconst 2, 1) := de_5 (lb_35 (j := 13) (b := 5) rfl)
theorem dL_law_574 : decode cL_law 574 = .ok (.iadd, 1) := de_96 (lb_35 (j := 14) (b := 96) rfl)
theorem dL_law_575 : decode cL_law 575 = .ok (.iaload, 1) := de_46 (lb_35 (j := 15) (b := 46) rfl)
theorem dL_law_576 : decode cL_law 576 = .ok (.aload_n 3, 1) := de_45 (lb_36 (j := 0) (b := 45) rfl)
theorem dL_law_577 : decode cL_law 577 = .ok (.invokestatic 235, 3) := de_184 (lb_36 (j := 1) (b := 184) rfl) (lb_36 (j := 2) (b := 0) rfl) (lb_36 (j := 3) (b := 235) rfl) rfl
theorem dL_law_580 : decode cL_law 580 = .ok (.istore 6, 2) := de_54 (lb_36 (j := 4) (b := 54) rfl) (lb_36 (j := 5) (b := 6) rfl) rfl
theorem dL_law_582 : decode cL_law 582 = .ok (.aload_n 2, 1) := de_44 (lb_36 (j := 6) (b := 44) rfl)
theorem dL_law_583 : decode cL_law 583 = .ok (.aload_n 0, 1) := de_42 (lb_36 (j := 7) (b := 42) rfl)
theorem dL_law_584 : decode cL_law 584 = .ok (.iload 5, 2) := de_21 (lb_36 (j := 8) (b := 21) rfl) (lb_36 (j := 9) (b := 5) rfl) rfl
theorem dL_law_586 : decode cL_law 586 = .ok (.iconst 1, 1) := de_4 (lb_36 (j := 10) (b := 4) rfl)
theorem dL_law_587 : decode cL_law 587 = .ok (.iadd, 1) := de_96 (lb_36 (j := 11) (b := 96) rfl)
theorem dL_law_588 : decode cL_law 588 = .ok (.iaload, 1) := de_46 (lb_36 (j := 12) (b := 46) rfl)
theorem dL_law_589 : decode cL_law 589 = .ok (.aload_n 0, 1) := de_42 (lb_36 (j := 13) (b := 42) rfl)
theorem dL_law_590 : decode cL_law 590 = .ok (.iload 5, 2) := de_21 (lb_36 (j := 14) (b := 21) rfl) (lb_36 (j := 15) (b := 5) rfl) rfl
theorem dL_law_592 : decode cL_law 592 = .ok (.iconst 2, 1) := de_5 (lb_37 (j := 0) (b := 5) rfl)
theorem dL_law_593 : decode cL_law 593 = .ok (.iadd, 1) := de_96 (lb_37 (j := 1) (b := 96) rfl)
theorem dL_law_594 : decode cL_law 594 = .ok (.iaload, 1) := de_46 (lb_37 (j := 2) (b := 46) rfl)
theorem dL_law_595 : decode cL_law 595 = .ok (.invokevirtual 237, 3) := de_182 (lb_37 (j := 3) (b := 182) rfl) (lb_37 (j := 4) (b := 0) rfl) (lb_37 (j := 5) (b := 237) rfl) rfl
theorem dL_law_598 : decode cL_law 598 = .ok (.istore 7, 2) := de_54 (lb_37 (j := 6) (b := 54) rfl) (lb_37 (j := 7) (b := 7) rfl) rfl
theorem dL_law_600 : decode cL_law 600 = .ok (.goto 1839, 3) := de_167 (lb_37 (j := 8) (b := 167) rfl) (lb_37 (j := 9) (b := 7) rfl) (lb_37 (j := 10) (b := 47) rfl) (by decide +kernel)
theorem dL_law_603 : decode cL_law 603 = .ok (.aload_n 1, 1) := de_43 (lb_37 (j := 11) (b := 43) rfl)
theorem dL_law_604 : decode cL_law 604 = .ok (.invokevirtual 238, 3) := de_182 (lb_37 (j := 12) (b := 182) rfl) (lb_37 (j := 13) (b := 0) rfl) (lb_37 (j := 14) (b := 238) rfl) rfl
theorem dL_law_607 : decode cL_law 607 = .ok (.pop, 1) := de_87 (lb_37 (j := 15) (b := 87) rfl)
theorem dL_law_608 : decode cL_law 608 = .ok (.aload_n 2, 1) := de_44 (lb_38 (j := 0) (b := 44) rfl)
theorem dL_law_609 : decode cL_law 609 = .ok (.invokevirtual 241, 3) := de_182 (lb_38 (j := 1) (b := 182) rfl) (lb_38 (j := 2) (b := 0) rfl) (lb_38 (j := 3) (b := 241) rfl) rfl
theorem dL_law_612 : decode cL_law 612 = .ok (.pop, 1) := de_87 (lb_38 (j := 4) (b := 87) rfl)
theorem dL_law_613 : decode cL_law 613 = .ok (.goto 1826, 3) := de_167 (lb_38 (j := 5) (b := 167) rfl) (lb_38 (j := 6) (b := 7) rfl) (lb_38 (j := 7) (b := 34) rfl) (by decide +kernel)
theorem dL_law_616 : decode cL_law 616 = .ok (.aload_n 1, 1) := de_43 (lb_38 (j := 8) (b := 43) rfl)
theorem dL_law_617 : decode cL_law 617 = .ok (.aload_n 0, 1) := de_42 (lb_38 (j := 9) (b := 42) rfl)
theorem dL_law_618 : decode cL_law 618 = .ok (.iload 5, 2) := de_21 (lb_38 (j := 10) (b := 21) rfl) (lb_38 (j := 11) (b := 5) rfl) rfl
theorem dL_law_620 : decode cL_law 620 = .ok (.iconst 1, 1) := de_4 (lb_38 (j := 12) (b := 4) rfl)
theorem dL_law_621 : decode cL_law 621 = .ok (.iadd, 1) := de_96 (lb_38 (j := 13) (b := 96) rfl)
theorem dL_law_622 : decode cL_law 622 = .ok (.iaload, 1) := de_46 (lb_38 (j := 14) (b := 46) rfl)
theorem dL_law_623 : decode cL_law 623 = .ok (.aload_n 0, 1) := de_42 (lb_38 (j := 15) (b := 42) rfl)
theorem dL_law_624 : decode cL_law 624 = .ok (.iload 5, 2) := de_21 (lb_39 (j := 0) (b := 21) rfl) (lb_39 (j := 1) (b := 5) rfl) rfl
theorem dL_law_626 : decode cL_law 626 = .ok (.iconst 2, 1) := de_5 (lb_39 (j := 2) (b := 5) rfl)
theorem dL_law_627 : decode cL_law 627 = .ok (.iadd, 1) := de_96 (lb_39 (j := 3) (b := 96) rfl)
theorem dL_law_628 : decode cL_law 628 = .ok (.iaload, 1) := de_46 (lb_39 (j := 4) (b := 46) rfl)
theorem dL_law_629 : decode cL_law 629 = .ok (.aload_n 0, 1) := de_42 (lb_39 (j := 5) (b := 42) rfl)
theorem dL_law_630 : decode cL_law 630 = .ok (.iload 5, 2) := de_21 (lb_39 (j := 6) (b := 21) rfl) (lb_39 (j := 7) (b := 5) rfl) rfl
theorem dL_law_632 : decode cL_law 632 = .ok (.iconst 3, 1) := de_6 (lb_39 (j := 8) (b := 6) rfl)
theorem dL_law_633 : decode cL_law 633 = .ok (.iadd, 1) := de_96 (lb_39 (j := 9) (b := 96) rfl)
theorem dL_law_634 : decode cL_law 634 = .ok (.iaload, 1) := de_46 (lb_39 (j := 10) (b := 46) rfl)
theorem dL_law_635 : decode cL_law 635 = .ok (.aload_n 3, 1) := de_45 (lb_39 (j := 11) (b := 45) rfl)
theorem dL_law_636 : decode cL_law 636 = .ok (.invokestatic 242, 3) := de_184 (lb_39 (j := 12) (b := 184) rfl) (lb_39 (j := 13) (b := 0) rfl) (lb_39 (j := 14) (b := 242) rfl) rfl
theorem dL_law_639 : decode cL_law 639 = .ok (.istore 6, 2) := de_54 (lb_39 (j := 15) (b := 54) rfl) (lb_40 (j := 0) (b := 6) rfl) rfl
theorem dL_law_641 : decode cL_law 641 = .ok (.aload_n 2, 1) := de_44 (lb_40 (j := 1) (b := 44) rfl)
theorem dL_law_642 : decode cL_law 642 = .ok (.aload_n 0, 1) := de_42 (lb_40 (j := 2) (b := 42) rfl)
theorem dL_law_643 : decode cL_law 643 = .ok (.iload 5, 2) := de_21 (lb_40 (j := 3) (b := 21) rfl) (lb_40 (j := 4) (b := 5) rfl) rfl
theorem dL_law_645 : decode cL_law 645 = .ok (.iconst 1, 1) := de_4 (lb_40 (j := 5) (b := 4) rfl)
theorem dL_law_646 : decode cL_law 646 = .ok (.iadd, 1) := de_96 (lb_40 (j := 6) (b := 96) rfl)
theorem dL_law_647 : decode cL_law 647 = .ok (.iaload, 1) := de_46 (lb_40 (j := 7) (b := 46) rfl)
theorem dL_law_648 : decode cL_law 648 = .ok (.aload_n 0, 1) := de_42 (lb_40 (j := 8) (b := 42) rfl)
theorem dL_law_649 : decode cL_law 649 = .ok (.iload 5, 2) := de_21 (lb_40 (j := 9) (b := 21) rfl) (lb_40 (j := 10) (b := 5) rfl) rfl
theorem dL_law_651 : decode cL_law 651 = .ok (.iconst 2, 1) := de_5 (lb_40 (j := 11) (b := 5) rfl)
theorem dL_law_652 : decode cL_law 652 = .ok (.iadd, 1) := de_96 (lb_40 (j := 12) (b := 96) rfl)
theorem dL_law_653 : decode cL_law 653 = .ok (.iaload, 1) := de_46 (lb_40 (j := 13) (b := 46) rfl)
theorem dL_law_654 : decode cL_law 654 = .ok (.aload_n 0, 1) := de_42 (lb_40 (j := 14) (b := 42) rfl)
theorem dL_law_655 : decode cL_law 655 = .ok (.iload 5, 2) := de_21 (lb_40 (j := 15) (b := 21) rfl) (lb_41 (j := 0) (b := 5) rfl) rfl
theorem dL_law_657 : decode cL_law 657 = .ok (.iconst 3, 1) := de_6 (lb_41 (j := 1) (b := 6) rfl)
theorem dL_law_658 : decode cL_law 658 = .ok (.iadd, 1) := de_96 (lb_41 (j := 2) (b := 96) rfl)
theorem dL_law_659 : decode cL_law 659 = .ok (.iaload, 1) := de_46 (lb_41 (j := 3) (b := 46) rfl)
theorem dL_law_660 : decode cL_law 660 = .ok (.invokevirtual 245, 3) := de_182 (lb_41 (j := 4) (b := 182) rfl) (lb_41 (j := 5) (b := 0) rfl) (lb_41 (j := 6) (b := 245) rfl) rfl
theorem dL_law_663 : decode cL_law 663 = .ok (.istore 7, 2) := de_54 (lb_41 (j := 7) (b := 54) rfl) (lb_41 (j := 8) (b := 7) rfl) rfl
theorem dL_law_665 : decode cL_law 665 = .ok (.goto 1774, 3) := de_167 (lb_41 (j := 9) (b := 167) rfl) (lb_41 (j := 10) (b := 6) rfl) (lb_41 (j := 11) (b := 238) rfl) (by decide +kernel)
theorem dL_law_668 : decode cL_law 668 = .ok (.aload_n 1, 1) := de_43 (lb_41 (j := 12) (b := 43) rfl)
theorem dL_law_669 : decode cL_law 669 = .ok (.aload_n 0, 1) := de_42 (lb_41 (j := 13) (b := 42) rfl)
theorem dL_law_670 : decode cL_law 670 = .ok (.iload 5, 2) := de_21 (lb_41 (j := 14) (b := 21) rfl) (lb_41 (j := 15) (b := 5) rfl) rfl
theorem dL_law_672 : decode cL_law 672 = .ok (.iconst 1, 1) := de_4 (lb_42 (j := 0) (b := 4) rfl)
theorem dL_law_673 : decode cL_law 673 = .ok (.iadd, 1) := de_96 (lb_42 (j := 1) (b := 96) rfl)
theorem dL_law_674 : decode cL_law 674 = .ok (.iaload, 1) := de_46 (lb_42 (j := 2) (b := 46) rfl)
theorem dL_law_675 : decode cL_law 675 = .ok (.aload_n 3, 1) := de_45 (lb_42 (j := 3) (b := 45) rfl)
theorem dL_law_676 : decode cL_law 676 = .ok (.invokestatic 246, 3) := de_184 (lb_42 (j := 4) (b := 184) rfl) (lb_42 (j := 5) (b := 0) rfl) (lb_42 (j := 6) (b := 246) rfl) rfl
theorem dL_law_679 : decode cL_law 679 = .ok (.istore 6, 2) := de_54 (lb_42 (j := 7) (b := 54) rfl) (lb_42 (j := 8) (b := 6) rfl) rfl
theorem dL_law_681 : decode cL_law 681 = .ok (.aload_n 2, 1) := de_44 (lb_42 (j := 9) (b := 44) rfl)
theorem dL_law_682 : decode cL_law 682 = .ok (.aload_n 0, 1) := de_42 (lb_42 (j := 10) (b := 42) rfl)
theorem dL_law_683 : decode cL_law 683 = .ok (.iload 5, 2) := de_21 (lb_42 (j := 11) (b := 21) rfl) (lb_42 (j := 12) (b := 5) rfl) rfl
theorem dL_law_685 : decode cL_law 685 = .ok (.iconst 1, 1) := de_4 (lb_42 (j := 13) (b := 4) rfl)
theorem dL_law_686 : decode cL_law 686 = .ok (.iadd, 1) := de_96 (lb_42 (j := 14) (b := 96) rfl)
theorem dL_law_687 : decode cL_law 687 = .ok (.iaload, 1) := de_46 (lb_42 (j := 15) (b := 46) rfl)
theorem dL_law_688 : decode cL_law 688 = .ok (.invokevirtual 248, 3) := de_182 (lb_43 (j := 0) (b := 182) rfl) (lb_43 (j := 1) (b := 0) rfl) (lb_43 (j := 2) (b := 248) rfl) rfl
theorem dL_law_691 : decode cL_law 691 = .ok (.istore 7, 2) := de_54 (lb_43 (j := 3) (b := 54) rfl) (lb_43 (j := 4) (b := 7) rfl) rfl
theorem dL_law_693 : decode cL_law 693 = .ok (.goto 1746, 3) := de_167 (lb_43 (j := 5) (b := 167) rfl) (lb_43 (j := 6) (b := 6) rfl) (lb_43 (j := 7) (b := 210) rfl) (by decide +kernel)
theorem dL_law_696 : decode cL_law 696 = .ok (.aload_n 1, 1) := de_43 (lb_43 (j := 8) (b := 43) rfl)
theorem dL_law_697 : decode cL_law 697 = .ok (.aload_n 0, 1) := de_42 (lb_43 (j := 9) (b := 42) rfl)
theorem dL_law_698 : decode cL_law 698 = .ok (.iload 5, 2) := de_21 (lb_43 (j := 10) (b := 21) rfl) (lb_43 (j := 11) (b := 5) rfl) rfl
theorem dL_law_700 : decode cL_law 700 = .ok (.iconst 1, 1) := de_4 (lb_43 (j := 12) (b := 4) rfl)
theorem dL_law_701 : decode cL_law 701 = .ok (.iadd, 1) := de_96 (lb_43 (j := 13) (b := 96) rfl)
theorem dL_law_702 : decode cL_law 702 = .ok (.iaload, 1) := de_46 (lb_43 (j := 14) (b := 46) rfl)
theorem dL_law_703 : decode cL_law 703 = .ok (.aload_n 0, 1) := de_42 (lb_43 (j := 15) (b := 42) rfl)
theorem dL_law_704 : decode cL_law 704 = .ok (.iload 5, 2) := de_21 (lb_44 (j := 0) (b := 21) rfl) (lb_44 (j := 1) (b := 5) rfl) rfl
theorem dL_law_706 : decode cL_law 706 = .ok (.iconst 2, 1) := de_5 (lb_44 (j := 2) (b := 5) rfl)
theorem dL_law_707 : decode cL_law 707 = .ok (.iadd, 1) := de_96 (lb_44 (j := 3) (b := 96) rfl)
theorem dL_law_708 : decode cL_law 708 = .ok (.iaload, 1) := de_46 (lb_44 (j := 4) (b := 46) rfl)
theorem dL_law_709 : decode cL_law 709 = .ok (.aload_n 3, 1) := de_45 (lb_44 (j := 5) (b := 45) rfl)
theorem dL_law_710 : decode cL_law 710 = .ok (.invokestatic 249, 3) := de_184 (lb_44 (j := 6) (b := 184) rfl) (lb_44 (j := 7) (b := 0) rfl) (lb_44 (j := 8) (b := 249) rfl) rfl
theorem dL_law_713 : decode cL_law 713 = .ok (.istore 6, 2) := de_54 (lb_44 (j := 9) (b := 54) rfl) (lb_44 (j := 10) (b := 6) rfl) rfl
theorem dL_law_715 : decode cL_law 715 = .ok (.aload_n 2, 1) := de_44 (lb_44 (j := 11) (b := 44) rfl)
theorem dL_law_716 : decode cL_law 716 = .ok (.aload_n 0, 1) := de_42 (lb_44 (j := 12) (b := 42) rfl)
theorem dL_law_717 : decode cL_law 717 = .ok (.iload 5, 2) := de_21 (lb_44 (j := 13) (b := 21) rfl) (lb_44 (j := 14) (b := 5) rfl) rfl
theorem dL_law_719 : decode cL_law 719 = .ok (.iconst 1, 1) := de_4 (lb_44 (j := 15) (b := 4) rfl)
theorem dL_law_720 : decode cL_law 720 = .ok (.iadd, 1) := de_96 (lb_45 (j := 0) (b := 96) rfl)
theorem dL_law_721 : decode cL_law 721 = .ok (.iaload, 1) := de_46 (lb_45 (j := 1) (b := 46) rfl)
theorem dL_law_722 : decode cL_law 722 = .ok (.aload_n 0, 1) := de_42 (lb_45 (j := 2) (b := 42) rfl)
theorem dL_law_723 : decode cL_law 723 = .ok (.iload 5, 2) := de_21 (lb_45 (j := 3) (b := 21) rfl) (lb_45 (j := 4) (b := 5) rfl) rfl
theorem dL_law_725 : decode cL_law 725 = .ok (.iconst 2, 1) := de_5 (lb_45 (j := 5) (b := 5) rfl)
theorem dL_law_726 : decode cL_law 726 = .ok (.iadd, 1) := de_96 (lb_45 (j := 6) (b := 96) rfl)
theorem dL_law_727 : decode cL_law 727 = .ok (.iaload, 1) := de_46 (lb_45 (j := 7) (b := 46) rfl)
theorem dL_law_728 : decode cL_law 728 = .ok (.invokevirtual 251, 3) := de_182 (lb_45 (j := 8) (b := 182) rfl) (lb_45 (j := 9) (b := 0) rfl) (lb_45 (j := 10) (b := 251) rfl) rfl
theorem dL_law_731 : decode cL_law 731 = .ok (.istore 7, 2) := de_54 (lb_45 (j := 11) (b := 54) rfl) (lb_45 (j := 12) (b := 7) rfl) rfl
theorem dL_law_733 : decode cL_law 733 = .ok (.goto 1706, 3) := de_167 (lb_45 (j := 13) (b := 167) rfl) (lb_45 (j := 14) (b := 6) rfl) (lb_45 (j := 15) (b := 170) rfl) (by decide +kernel)
theorem dL_law_736 : decode cL_law 736 = .ok (.aload_n 1, 1) := de_43 (lb_46 (j := 0) (b := 43) rfl)
theorem dL_law_737 : decode cL_law 737 = .ok (.invokevirtual 252, 3) := de_182 (lb_46 (j := 1) (b := 182) rfl) (lb_46 (j := 2) (b := 0) rfl) (lb_46 (j := 3) (b := 252) rfl) rfl
theorem dL_law_740 : decode cL_law 740 = .ok (.pop, 1) := de_87 (lb_46 (j := 4) (b := 87) rfl)
theorem dL_law_741 : decode cL_law 741 = .ok (.aload_n 2, 1) := de_44 (lb_46 (j := 5) (b := 44) rfl)
theorem dL_law_742 : decode cL_law 742 = .ok (.invokevirtual 255, 3) := de_182 (lb_46 (j := 6) (b := 182) rfl) (lb_46 (j := 7) (b := 0) rfl) (lb_46 (j := 8) (b := 255) rfl) rfl
theorem dL_law_745 : decode cL_law 745 = .ok (.pop, 1) := de_87 (lb_46 (j := 9) (b := 87) rfl)
theorem dL_law_746 : decode cL_law 746 = .ok (.goto 1693, 3) := de_167 (lb_46 (j := 10) (b := 167) rfl) (lb_46 (j := 11) (b := 6) rfl) (lb_46 (j := 12) (b := 157) rfl) (by decide +kernel)
set_option maxHeartbeats 4000000 in
set_option maxRecDepth 100000 in
theorem y_a8 {p : Program} {e : Env} {s : State} {m : MethodId} {below : List Frame} {meth : Method} {c : Code} (l : Launch) (hst : l.stackTraces = false) {b L : Nat} {xs : Nat → Int32} (hx : p.tables.exec = Jvm.exec) (hb : c.code = code) (hml : c.maxLocals = 9) (hown : s.vm.findClass RL = some m.cls) (hts : ∀ w ∈ lw_tbl, w.before #[Value.ref b] s = true) (hX0 : va_X b L xs s s.heap) (hbl : b < s.heap.size) (hX : xT (fun q => s.heap.size ≤ q) s) (hN : nC s) (hTS : sAll s.heap.size s) {D : va_G} {cI cJ cZ cMic cSrc cSt cAI cAJ cD : ClassId} (hK : va_K D vwCl (CT cI cJ cZ cMic cSrc cSt cAI cAJ ++ [(cD, .double)]) s) {Q : State → Prop} {i j : Nat} (hi : i + 6 ≤ L) (hL : L ≤ 3072) (hj : j < 512) {aj ae : Nat} {ad am : Nat → Nat} {T : AT} {Sm : MS} {f : Nat → Int64} {g : Nat → UInt64} {ls : Array Slot} {H : Heap} {locs : List Loc} (hV : IV aR0 1586 aK1 aK2 T) (hrc : RC T) (hJ : JJ Sm) (G : gL cI cJ cZ cMic cSrc cSt cAI cAJ D ad (fun q => s.heap.size ≤ q) s.heap H locs T (oJ aj cJ f :: oD ae cD g :: MW cI cJ cZ am Sm)) (hl : lv_has ls 9 [(5, .int (nI i)), (4, .ref ae), (3, .ref aj), (2, .ref (am 0)), (1, .ref (ad 0)), (0, .ref b)]) (kk : ∀ {r1 : Int32} {T1 : AT} {r2 : Int32} {S1 : MS} (ad2 : Nat → Nat) (f1 : Nat → Int64) (g1 : Nat → UInt64) (H1 : Heap) (locs1 : List Loc) (ls1 : Array Slot), g_X11_columns T 0 = some (r1, T1) → fr_columns Sm = some (r2, S1) → ad2 0 = ad 0 → IV aR0 1586 aK1 aK2 T1 → RC T1 → JJ S1 → gL cI cJ cZ cMic cSrc cSt cAI cAJ D ad2 (fun q => s.heap.size ≤ q) s.heap H1 locs1 T1 (oJ aj cJ f1 :: oD ae cD g1 :: MW cI cJ cZ am S1) → lv_has ls1 9 [(5, .int (nI i)), (4, .ref ae), (3, .ref aj), (2, .ref (am 0)), (1, .ref (ad2 0)), (0, .ref b)] → W p l e room_1 s m #[Value.ref b] below meth c H1 locs1 (19 + T1.1 + (j + 1)) (38467 + sg T1 + 6 * (j + 1)) Q (F0 m 2439 ls1 [])) : W p l e room_1 s m #[Value.ref b] below meth c H locs (19 + T.1 + j) (38467 + sg T + 6 * j) Q (F0 m 537 ls []) := by
  have E : cE p c cL_law s m #[Value.ref b] lw_tbl D RL (CT cI cJ cZ cMic cSrc cSt cAI cAJ ++ [(cD, .double)]) := ⟨hx, hb, hts, hown, hK⟩
  have hA : ∀ q : Nat, s.heap.size ≤ q → s.heap.size ≤ q := fun _ h => h
  have h0T : 0 < T.1 := Nat.lt_of_lt_of_le (by decide) hV.1.2.2
  have h0s : T.2.1 0 = (11, 0) := hV.2.1 0 ⟨by decide, by decide +kernel, by decide +kernel⟩
  refine lv_aload_n hx hb dL_law_537 rfl (lv_at hl 4 rfl) ?_
  obtain ⟨⟨r1, T1⟩, hg, hc⟩ := cs_X11_columns T 0 hV (by decide +kernel)
  have hV1 : IV aR0 1586 aK1 aK2 T1 := by rw [show T1 = T from hc.1]; exact hV
  have hg1 := (gl_sp (s_X11_columns hg))
  have hg2 := sg_le hg1
  have hg3 := hg1.1
  have hk := hV1.2.2.2.2.2.2
  have hrc1 := hg1.2.2 hrc
  have hr0 := a_room
  refine t_cvi (As := []) (rest := []) E G hA hX hX.2.2.2.1 hml (u_X11_columns l hst D cI cJ cZ cMic cSrc cSt cAI cAJ ad T 0  hg) (cwV 0 hts (glA (L := [Cond.methodLink RL 227 yX11_columns, Cond.instanceMethod yX11_columns, Cond.selects RX11 yX11_columns yX11_columns, Cond.initialized RX11]) (gl_in [(3, 72), (3, 73), (3, 74), (1, 1)] (by decide +kernel) (by decide +kernel)) ⟨(t_of [Cond.code yX11_columns cX11_columns 1 (some .int)] [(3, 75)] (by decide +kernel) _ List.mem_cons_self), List.all_eq_true.mp (by decide +kernel : [Cond.code yX11_columns cX11_columns 1 (some .int)].all goodWord = true) _ List.mem_cons_self⟩) rfl rfl rfl (by decide +kernel) ⟨Nat.le_of_ble_eq_true rfl, Nat.le_of_ble_eq_true rfl⟩) h0T (cc_o11 h0s) rfl rfl hl.1 rfl (lv_room (Nat.le_of_ble_eq_true rfl)) dL_law_538 ⟨by show _ ≤ 601024; omega, by show _ ≤ 7293034; omega⟩ ?_
  intro r9 T9 H locs hp G
  obtain ⟨hr9, hS1⟩ := hp
  rw [hS1] at G
  refine lv_to (y := r1) hr9 ?_
  refine lv_pop hx hb dL_law_541 rfl ?_
  refine lv_aload_n hx hb dL_law_542 rfl (lv_at hl 3 rfl) ?_
  obtain ⟨⟨r2, S1⟩, hf, hj⟩ := sj_columns Sm hJ
  have hJ1 : JJ S1 := hj
  refine y_mi (As := []) (rest := []) E G hA hX.2.2.2.2 hml (tr_columns l D cI cJ cZ am Sm  hf) (cwV 0 hts (glM (L := [Cond.methodLink RL 230 yX12_columns, Cond.instanceMethod yX12_columns, Cond.selects RX12 yX12_columns yX12_columns, Cond.initialized RX12]) (gl_in [(9, 68), (9, 69), (9, 70), (1, 14)] (by decide +kernel) (by decide +kernel)) ⟨(t_of [Cond.code yX12_columns cX12_columns 1 (some .int)] [(9, 71)] (by decide +kernel) _ List.mem_cons_self), List.all_eq_true.mp (by decide +kernel : [Cond.code yX12_columns cX12_columns 1 (some .int)].all goodWord = true) _ List.mem_cons_self⟩) rfl rfl rfl (by decide +kernel) ⟨Nat.le_of_ble_eq_true rfl, Nat.le_of_ble_eq_true rfl⟩) rfl hl.1 rfl (lv_room (Nat.le_of_ble_eq_true rfl)) dL_law_543 ⟨by show _ ≤ 601024; omega, by show _ ≤ 7293034; omega⟩ (fun H locs G => ?_)
  refine lv_pop hx hb dL_law_546 rfl ?_
  refine lv_goto (tgt := 2439) hx hb dL_law_547 (by decide) ?_
  refine W.widen (k := 19 + T1.1 + (j + 1)) (n := 38467 + sg T1 + 6 * (j + 1)) (by omega) (by omega) ?_
  exact kk ad f g H locs ls hg hf rfl hV1 hrc1 hJ1 G hl
set_option maxHeartbeats 4000000 in
set_option maxRecDepth 100000 in
theorem y_a9 {p : Program} {e : Env} {s : State} {m : MethodId} {below : List Frame} {meth : Method} {c : Code} (l : Launch) (hst : l.stackTraces = false) {b L : Nat} {xs : Nat → Int32} (hx : p.tables.exec = Jvm.exec) (hb : c.code = code) (hml : c.maxLocals = 9) (hown : s.vm.findClass RL = some m.cls) (hts : ∀ w ∈ lw_tbl, w.before #[Value.ref b] s = true) (hX0 : va_X b L xs s s.heap) (hbl : b < s.heap.size) (hX : xT (fun q => s.heap.size ≤ q) s) (hN : nC s) (hTS : sAll s.heap.size s) {D : va_G} {cI cJ cZ cMic cSrc cSt cAI cAJ cD : ClassId} (hK : va_K D vwCl (CT cI cJ cZ cMic cSrc cSt cAI cAJ ++ [(cD, .double)]) s) {Q : State → Prop} {i j : Nat} (hi : i + 6 ≤ L) (hL : L ≤ 3072) (hj : j < 512) {aj ae : Nat} {ad am : Nat → Nat} {T : AT} {Sm : MS} {f : Nat → Int64} {g : Nat → UInt64} {ls : Array Slot} {H : Heap} {locs : List Loc} (hV : IV aR0 1586 aK1 aK2 T) (hrc : RC T) (hJ : JJ Sm) (G : gL cI cJ cZ cMic cSrc cSt cAI cAJ D ad (fun q => s.heap.size ≤ q) s.heap H locs T (oJ aj cJ f :: oD ae cD g :: MW cI cJ cZ am Sm)) (hl : lv_has ls 9 [(5, .int (nI i)), (4, .ref ae), (3, .ref aj), (2, .ref (am 0)), (1, .ref (ad 0)), (0, .ref b)]) (kk : ∀ {r1 : Int32} {T1 : AT} {r2 : Int32} {S1 : MS} (ad2 : Nat → Nat) (f1 : Nat → Int64) (g1 : Nat → UInt64) (H1 : Heap) (locs1 : List Loc) (ls1 : Array Slot), g_X11_rows T 0 = some (r1, T1) → fr_rows Sm = some (r2, S1) → ad2 0 = ad 0 → IV aR0 1586 aK1 aK2 T1 → RC T1 → JJ S1 → gL cI cJ cZ cMic cSrc cSt cAI cAJ D ad2 (fun q => s.heap.size ≤ q) s.heap H1 locs1 T1 (oJ aj cJ f1 :: oD ae cD g1 :: MW cI cJ cZ am S1) → lv_has ls1 9 [(5, .int (nI i)), (4, .ref ae), (3, .ref aj), (2, .ref (am 0)), (1, .ref (ad2 0)), (0, .ref b)] → W p l e room_1 s m #[Value.ref b] below meth c H1 locs1 (19 + T1.1 + (j + 1)) (38467 + sg T1 + 6 * (j + 1)) Q (F0 m 2439 ls1 [])) : W p l e room_1 s m #[Value.ref b] below meth c H locs (19 + T.1 + j) (38467 + sg T + 6 * j) Q (F0 m 550 ls []) := by
  have E : cE p c cL_law s m #[Value.ref b] lw_tbl D RL (CT cI cJ cZ cMic cSrc cSt cAI cAJ ++ [(cD, .double)]) := ⟨hx, hb, hts, hown, hK⟩
  have hA : ∀ q : Nat, s.heap.size ≤ q → s.heap.size ≤ q := fun _ h => h
  have h0T : 0 < T.1 := Nat.lt_of_lt_of_le (by decide) hV.1.2.2
  have h0s : T.2.1 0 = (11, 0) := hV.2.1 0 ⟨by decide, by decide +kernel, by decide +kernel⟩
  refine lv_aload_n hx hb dL_law_550 rfl (lv_at hl 4 rfl) ?_
  obtain ⟨⟨r1, T1⟩, hg, hc⟩ := cs_X11_rows T 0 hV (by decide +kernel)
  have hV1 : IV aR0 1586 aK1 aK2 T1 := by rw [show T1 = T from hc.1]; exact hV
  have hg1 := (gl_sp (s_X11_rows hg))
  have hg2 := sg_le hg1
  have hg3 := hg1.1
  have hk := hV1.2.2.2.2.2.2
  have hrc1 := hg1.2.2 hrc
  have hr0 := a_room
  refine t_cvi (As := []) (rest := []) E G hA hX hX.2.2.2.1 hml (u_X11_rows l hst D cI cJ cZ cMic cSrc cSt cAI cAJ ad T 0  hg) (cwV 0 hts (glA (L := [Cond.methodLink RL 231 yX11_rows, Cond.instanceMethod yX11_rows, Cond.selects RX11 yX11_rows yX11_rows, Cond.initialized RX11]) (gl_in [(3, 76), (3, 77), (3, 78), (1, 1)] (by decide +kernel) (by decide +kernel)) ⟨(t_of [Cond.code yX11_rows cX11_rows 1 (some .int)] [(3, 79)] (by decide +kernel) _ List.mem_cons_self), List.all_eq_true.mp (by decide +kernel : [Cond.code yX11_rows cX11_rows 1 (some .int)].all goodWord = true) _ List.mem_cons_self⟩) rfl rfl rfl (by decide +kernel) ⟨Nat.le_of_ble_eq_true rfl, Nat.le_of_ble_eq_true rfl⟩) h0T (cc_o11 h0s) rfl rfl hl.1 rfl (lv_room (Nat.le_of_ble_eq_true rfl)) dL_law_551 ⟨by show _ ≤ 601024; omega, by show _ ≤ 7293034; omega⟩ ?_
  intro r9 T9 H locs hp G
  obtain ⟨hr9, hS1⟩ := hp
  rw [hS1] at G
  refine lv_to (y := r1) hr9 ?_
  refine lv_pop hx hb dL_law_554 rfl ?_
  refine lv_aload_n hx hb dL_law_555 rfl (lv_at hl 3 rfl) ?_
  obtain ⟨⟨r2, S1⟩, hf, hj⟩ := sj_rows Sm hJ
  have hJ1 : JJ S1 := hj
  refine y_mi (As := []) (rest := []) E G hA hX.2.2.2.2 hml (tr_rows l D cI cJ cZ am Sm  hf) (cwV 0 hts (glM (L := [Cond.methodLink RL 234 yX12_rows, Cond.instanceMethod yX12_rows, Cond.selects RX12 yX12_rows yX12_rows, Cond.initialized RX12]) (gl_in [(9, 72), (9, 73), (9, 74), (1, 14)] (by decide +kernel) (by decide +kernel)) ⟨(t_of [Cond.code yX12_rows cX12_rows 1 (some .int)] [(9, 75)] (by decide +kernel) _ List.mem_cons_self), List.all_eq_true.mp (by decide +kernel : [Cond.code yX12_rows cX12_rows 1 (some .int)].all goodWord = true) _ List.mem_cons_self⟩) rfl rfl rfl (by decide +kernel) ⟨Nat.le_of_ble_eq_true rfl, Nat.le_of_ble_eq_true rfl⟩) rfl hl.1 rfl (lv_room (Nat.le_of_ble_eq_true rfl)) dL_law_556 ⟨by show _ ≤ 601024; omega, by show _ ≤ 7293034; omega⟩ (fun H locs G => ?_)
  refine lv_pop hx hb dL_law_559 rfl ?_
  refine lv_goto (tgt := 2439) hx hb dL_law_560 (by decide) ?_
  refine W.widen (k := 19 + T1.1 + (j + 1)) (n := 38467 + sg T1 + 6 * (j + 1)) (by omega) (by omega) ?_
  exact kk ad f g H locs ls hg hf rfl hV1 hrc1 hJ1 G hl
set_option maxHeartbeats 4000000 in
set_option maxRecDepth 100000 in
theorem y_a10 {p : Program} {e : Env} {s : State} {m : MethodId} {below : List Frame} {meth : Method} {c : Code} (l : Launch) (hst : l.stackTraces = false) {b L : Nat} {xs : Nat → Int32} (hx : p.tables.exec = Jvm.exec) (hb : c.code = code) (hml : c.maxLocals = 9) (hown : s.vm.findClass RL = some m.cls) (hts : ∀ w ∈ lw_tbl, w.before #[Value.ref b] s = true) (hX0 : va_X b L xs s s.heap) (hbl : b < s.heap.size) (hX : xT (fun q => s.heap.size ≤ q) s) (hN : nC s) (hTS : sAll s.heap.size s) {D : va_G} {cI cJ cZ cMic cSrc cSt cAI cAJ cD : ClassId} (hK : va_K D vwCl (CT cI cJ cZ cMic cSrc cSt cAI cAJ ++ [(cD, .double)]) s) {Q : State → Prop} {i j : Nat} (hi : i + 6 ≤ L) (hL : L ≤ 3072) (hj : j < 512) {aj ae : Nat} {ad am : Nat → Nat} {T : AT} {Sm : MS} {f : Nat → Int64} {g : Nat → UInt64} {ls : Array Slot} {H : Heap} {locs : List Loc} (hV : IV aR0 1586 aK1 aK2 T) (hrc : RC T) (hJ : JJ Sm) (G : gL cI cJ cZ cMic cSrc cSt cAI cAJ D ad (fun q => s.heap.size ≤ q) s.heap H locs T (oJ aj cJ f :: oD ae cD g :: MW cI cJ cZ am Sm)) (hl : lv_has ls 9 [(5, .int (nI i)), (4, .ref ae), (3, .ref aj), (2, .ref (am 0)), (1, .ref (ad 0)), (0, .ref b)]) (kk : ∀ {k1 : Nat} {r1 : Int32} {T1 : AT} {r2 : Int32} {S1 : MS} (ad2 : Nat → Nat) (f1 : Nat → Int64) (g1 : Nat → UInt64) (H1 : Heap) (locs1 : List Loc) (ls1 : Array Slot), g_X11_cellAt T 0 (xs (i + 1)) (xs (i + 2)) = some (k1, r1, T1) → fr_cellAt Sm (xs (i + 1)) (xs (i + 2)) = some (r2, S1) → ad2 0 = ad 0 → IV aR0 1586 aK1 aK2 T1 → RC T1 → JJ S1 → gL cI cJ cZ cMic cSrc cSt cAI cAJ D ad2 (fun q => s.heap.size ≤ q) s.heap H1 locs1 T1 (oJ aj cJ f1 :: oD ae cD g1 :: MW cI cJ cZ am S1) → lv_has ls1 9 [(5, .int (nI i)), (4, .ref ae), (3, .ref aj), (2, .ref (am 0)), (1, .ref (ad2 0)), (0, .ref b)] → W p l e room_1 s m #[Value.ref b] below meth c H1 locs1 (19 + T1.1 + (j + 1)) (38467 + sg T1 + 6 * (j + 1)) Q (F0 m 2439 ls1 [])) : W p l e room_1 s m #[Value.ref b] below meth c H locs (19 + T.1 + j) (38467 + sg T + 6 * j) Q (F0 m 563 ls []) := by
  have E : cE p c cL_law s m #[Value.ref b] lw_tbl D RL (CT cI cJ cZ cMic cSrc cSt cAI cAJ ++ [(cD, .double)]) := ⟨hx, hb, hts, hown, hK⟩
  have hA : ∀ q : Nat, s.heap.size ≤ q → s.heap.size ≤ q := fun _ h => h
  have h0T : 0 < T.1 := Nat.lt_of_lt_of_le (by decide) hV.1.2.2
  have h0s : T.2.1 0 = (11, 0) := hV.2.1 0 ⟨by decide, by decide +kernel, by decide +kernel⟩
  refine lv_aload_n hx hb dL_law_563 rfl (lv_at hl 4 rfl) ?_
  refine lv_aload_n hx hb dL_law_564 rfl (lv_at hl 5 rfl) ?_
  refine lv_iload hx hb dL_law_565 (lv_at hl 0 rfl) ?_
  refine lv_iconst (v := 1) hx hb dL_law_567 (by decide) ?_
  refine lv_iadd hx hb dL_law_568 ?_
  refine lv_to (y := nI (i + 1)) (nI_add i 1) ?_
  refine va_sld hx hb hX0 hbl (Nat.not_le.mpr hbl) G.2.2 (i := nI (i + 1)) (vp_in_nI (n := i + 1) (N := L) (by omega) (by omega)) dL_law_569 ?_
  refine lv_to (y := xs (i + 1)) (congrArg xs (nI_clamp (by omega))) ?_
  refine lv_aload_n hx hb dL_law_570 rfl (lv_at hl 5 rfl) ?_
  refine lv_iload hx hb dL_law_571 (lv_at hl 0 rfl) ?_
  refine lv_iconst (v := 2) hx hb dL_law_573 (by decide) ?_
  refine lv_iadd hx hb dL_law_574 ?_
  refine lv_to (y := nI (i + 2)) (nI_add i 2) ?_
  refine va_sld hx hb hX0 hbl (Nat.not_le.mpr hbl) G.2.2 (i := nI (i + 2)) (vp_in_nI (n := i + 2) (N := L) (by omega) (by omega)) dL_law_575 ?_
  refine lv_to (y := xs (i + 2)) (congrArg xs (nI_clamp (by omega))) ?_
  refine lv_aload_n hx hb dL_law_576 rfl (lv_at hl 2 rfl) ?_
  obtain ⟨⟨k1, r1, T1⟩, hg, hc⟩ := cs_X11_cellAt T 0 (xs (i + 1)) (xs (i + 2)) hV (by decide +kernel)
  have hV1 : IV aR0 1586 aK1 aK2 T1 := by rw [show T1 = T from hc.1]; exact hV
  have hg1 := (gl_sp (s_X11_cellAt hg))
  have hg2 := sg_le hg1
  have hg3 := hg1.1
  have hk := hV1.2.2.2.2.2.2
  have hrc1 := hg1.2.2 hrc
  have hr0 := a_room
  refine l_v (h0 := s.heap.size) (As := [.ref (ad 0), .int (xs (i + 1)), .int (xs (i + 2)), .ref aj]) (rest := []) E G hA hX hN (fun _ h => h) hTS hml (v_cellAt l hst D s.heap.size ad T 0 (xs (i + 1)) (xs (i + 2)) aj f hg hrc h0T h0s) (vx_cwSW 4 hts (glA (L := [Cond.methodLink RL 235 yL_cellAt, Cond.static yL_cellAt, Cond.initialized RL]) (gl_in [(5, 66), (5, 67), (1, 0)] (by decide +kernel) (by decide +kernel)) ⟨(t_of [Cond.codeWith yL_cellAt cL_cellAt 5 (some .int) [(0, 10, 13, 21), (0, 10, 17, 13), (0, 10, 21, 15)]] [(5, 68)] (by decide +kernel) _ List.mem_cons_self), List.all_eq_true.mp (by decide +kernel : [Cond.codeWith yL_cellAt cL_cellAt 5 (some .int) [(0, 10, 13, 21), (0, 10, 17, 13), (0, 10, 21, 15)]].all goodWord = true) _ List.mem_cons_self⟩) rfl rfl rfl (by decide +kernel) ⟨Nat.le_of_ble_eq_true rfl, Nat.le_of_ble_eq_true rfl⟩) rfl hl.1 rfl (lv_room (Nat.le_of_ble_eq_true rfl)) dL_law_577 ⟨by show _ ≤ 601024; omega, by show _ ≤ 7293034; omega⟩ ?_
  intro ad2 H locs had G
  rw [← had 0 h0T] at hl
  refine lv_istore (lv' := [(6, .int (vck 1 2 3 k1)), (5, .int (nI i)), (4, .ref ae), (3, .ref aj), (2, .ref (am 0)), (1, .ref (ad2 0)), (0, .ref b)]) hx hb dL_law_580 hl (by decide) rfl (fun ls hl => ?_)
  refine lv_aload_n hx hb dL_law_582 rfl (lv_at hl 4 rfl) ?_
  refine lv_aload_n hx hb dL_law_583 rfl (lv_at hl 6 rfl) ?_
  refine lv_iload hx hb dL_law_584 (lv_at hl 1 rfl) ?_
  refine lv_iconst (v := 1) hx hb dL_law_586 (by decide) ?_
  refine lv_iadd hx hb dL_law_587 ?_
  refine lv_to (y := nI (i + 1)) (nI_add i 1) ?_
  refine va_sld hx hb hX0 hbl (Nat.not_le.mpr hbl) G.2.2 (i := nI (i + 1)) (vp_in_nI (n := i + 1) (N := L) (by omega) (by omega)) dL_law_588 ?_
  refine lv_to (y := xs (i + 1)) (congrArg xs (nI_clamp (by omega))) ?_
  refine lv_aload_n hx hb dL_law_589 rfl (lv_at hl 6 rfl) ?_
  refine lv_iload hx hb dL_law_590 (lv_at hl 1 rfl) ?_
  refine lv_iconst (v := 2) hx hb dL_law_592 (by decide) ?_
  refine lv_iadd hx hb dL_law_593 ?_
  refine lv_to (y := nI (i + 2)) (nI_add i 2) ?_
  refine va_sld hx hb hX0 hbl (Nat.not_le.mpr hbl) G.2.2 (i := nI (i + 2)) (vp_in_nI (n := i + 2) (N := L) (by omega) (by omega)) dL_law_594 ?_
  refine lv_to (y := xs (i + 2)) (congrArg xs (nI_clamp (by omega))) ?_
  obtain ⟨⟨r2, S1⟩, hf, hj⟩ := sj_cellAt Sm (xs (i + 1)) (xs (i + 2)) hJ
  have hJ1 : JJ S1 := hj
  refine y_mi (As := [.int (xs (i + 1)), .int (xs (i + 2))]) (rest := []) E G hA hX.2.2.2.2 hml (tr_cellAt l D cI cJ cZ am Sm (xs (i + 1)) (xs (i + 2)) hf) (cwV 2 hts (glM (L := [Cond.methodLink RL 237 yX12_cellAt, Cond.instanceMethod yX12_cellAt, Cond.selects RX12 yX12_cellAt yX12_cellAt, Cond.initialized RX12]) (gl_in [(9, 76), (9, 77), (9, 78), (1, 14)] (by decide +kernel) (by decide +kernel)) ⟨(t_of [Cond.code yX12_cellAt cX12_cellAt 3 (some .int)] [(9, 79)] (by decide +kernel) _ List.mem_cons_self), List.all_eq_true.mp (by decide +kernel : [Cond.code yX12_cellAt cX12_cellAt 3 (some .int)].all goodWord = true) _ List.mem_cons_self⟩) rfl rfl rfl (by decide +kernel) ⟨Nat.le_of_ble_eq_true rfl, Nat.le_of_ble_eq_true rfl⟩) rfl hl.1 rfl (lv_room (Nat.le_of_ble_eq_true rfl)) dL_law_595 ⟨by show _ ≤ 601024; omega, by show _ ≤ 7293034; omega⟩ (fun H locs G => ?_)
  refine lv_istore (lv' := [(7, .int r2), (6, .int (vck 1 2 3 k1)), (5, .int (nI i)), (4, .ref ae), (3, .ref aj), (2, .ref (am 0)), (1, .ref (ad2 0)), (0, .ref b)]) hx hb dL_law_598 hl (by decide) rfl (fun ls hl => ?_)
  refine lv_goto (tgt := 2439) hx hb dL_law_600 (by decide) ?_
  have hl := lv_sub hl [2, 3, 4, 5, 6, 7] rfl
  refine W.widen (k := 19 + T1.1 + (j + 1)) (n := 38467 + sg T1 + 6 * (j + 1)) (by omega) (by omega) ?_
  exact kk ad2 (vfJ k1 f r1.toInt64) g H locs ls hg hf (had 0 h0T) hV1 hrc1 hJ1 G hl
set_option maxHeartbeats 4000000 in
set_option maxRecDepth 100000 in
theorem y_a11 {p : Program} {e : Env} {s : State} {m : MethodId} {below : List Frame} {meth : Method} {c : Code} (l : Launch) (hst : l.stackTraces = false) {b L : Nat} {xs : Nat → Int32} (hx : p.tables.exec = Jvm.exec) (hb : c.code = code) (hml : c.maxLocals = 9) (hown : s.vm.findClass RL = some m.cls) (hts : ∀ w ∈ lw_tbl, w.before #[Value.ref b] s = true) (hX0 : va_X b L xs s s.heap) (hbl : b < s.heap.size) (hX : xT (fun q => s.heap.size ≤ q) s) (hN : nC s) (hTS : sAll s.heap.size s) {D : va_G} {cI cJ cZ cMic cSrc cSt cAI cAJ cD : ClassId} (hK : va_K D vwCl (CT cI cJ cZ cMic cSrc cSt cAI cAJ ++ [(cD, .double)]) s) {Q : State → Prop} {i j : Nat} (hi : i + 6 ≤ L) (hL : L ≤ 3072) (hj : j < 512) {aj ae : Nat} {ad am : Nat → Nat} {T : AT} {Sm : MS} {f : Nat → Int64} {g : Nat → UInt64} {ls : Array Slot} {H : Heap} {locs : List Loc} (hV : IV aR0 1586 aK1 aK2 T) (hrc : RC T) (hJ : JJ Sm) (G : gL cI cJ cZ cMic cSrc cSt cAI cAJ D ad (fun q => s.heap.size ≤ q) s.heap H locs T (oJ aj cJ f :: oD ae cD g :: MW cI cJ cZ am Sm)) (hl : lv_has ls 9 [(5, .int (nI i)), (4, .ref ae), (3, .ref aj), (2, .ref (am 0)), (1, .ref (ad 0)), (0, .ref b)]) (kk : ∀ {r1 : Int32} {T1 : AT} {r2 : Int32} {S1 : MS} (ad2 : Nat → Nat) (f1 : Nat → Int64) (g1 : Nat → UInt64) (H1 : Heap) (locs1 : List Loc) (ls1 : Array Slot), g_X11_sources T 0 = some (r1, T1) → fr_sources Sm = some (r2, S1) → ad2 0 = ad 0 → IV aR0 1586 aK1 aK2 T1 → RC T1 → JJ S1 → gL cI cJ cZ cMic cSrc cSt cAI cAJ D ad2 (fun q => s.heap.size ≤ q) s.heap H1 locs1 T1 (oJ aj cJ f1 :: oD ae cD g1 :: MW cI cJ cZ am S1) → lv_has ls1 9 [(5, .int (nI i)), (4, .ref ae), (3, .ref aj), (2, .ref (am 0)), (1, .ref (ad2 0)), (0, .ref b)] → W p l e room_1 s m #[Value.ref b] below meth c H1 locs1 (19 + T1.1 + (j + 1)) (38467 + sg T1 + 6 * (j + 1)) Q (F0 m 2439 ls1 [])) : W p l e room_1 s m #[Value.ref b] below meth c H locs (19 + T.1 + j) (38467 + sg T + 6 * j) Q (F0 m 603 ls []) := by
  have E : cE p c cL_law s m #[Value.ref b] lw_tbl D RL (CT cI cJ cZ cMic cSrc cSt cAI cAJ ++ [(cD, .double)]) := ⟨hx, hb, hts, hown, hK⟩
  have hA : ∀ q : Nat, s.heap.size ≤ q → s.heap.size ≤ q := fun _ h => h
  have h0T : 0 < T.1 := Nat.lt_of_lt_of_le (by decide) hV.1.2.2
  have h0s : T.2.1 0 = (11, 0) := hV.2.1 0 ⟨by decide, by decide +kernel, by decide +kernel⟩
  refine lv_aload_n hx hb dL_law_603 rfl (lv_at hl 4 rfl) ?_
  obtain ⟨⟨r1, T1⟩, hg, hc⟩ := cs_X11_sources T 0 hV (by decide +kernel)
  have hV1 : IV aR0 1586 aK1 aK2 T1 := by rw [show T1 = T from hc.1]; exact hV
  have hg1 := (gl_sp (s_X11_sources hg))
  have hg2 := sg_le hg1
  have hg3 := hg1.1
  have hk := hV1.2.2.2.2.2.2
  have hrc1 := hg1.2.2 hrc
  have hr0 := a_room
  refine t_cvi (As := []) (rest := []) E G hA hX hX.2.2.2.1 hml (u_X11_sources l hst D cI cJ cZ cMic cSrc cSt cAI cAJ ad T 0  hg) (cwV 0 hts (glA (L := [Cond.methodLink RL 238 yX11_sources, Cond.instanceMethod yX11_sources, Cond.selects RX11 yX11_sources yX11_sources, Cond.initialized RX11]) (gl_in [(3, 80), (3, 81), (3, 82), (1, 1)] (by decide +kernel) (by decide +kernel)) ⟨(t_of [Cond.code yX11_sources cX11_sources 1 (some .int)] [(3, 83)] (by decide +kernel) _ List.mem_cons_self), List.all_eq_true.mp (by decide +kernel : [Cond.code yX11_sources cX11_sources 1 (some .int)].all goodWord = true) _ List.mem_cons_self⟩) rfl rfl rfl (by decide +kernel) ⟨Nat.le_of_ble_eq_true rfl, Nat.le_of_ble_eq_true rfl⟩) h0T (cc_o11 h0s) rfl rfl hl.1 rfl (lv_room (Nat.le_of_ble_eq_true rfl)) dL_law_604 ⟨by show _ ≤ 601024; omega, by show _ ≤ 7293034; omega⟩ ?_
  intro r9 T9 H locs hp G
  obtain ⟨hr9, hS1⟩ := hp
  rw [hS1] at G
  refine lv_to (y := r1) hr9 ?_
  refine lv_pop hx hb dL_law_607 rfl ?_
  refine lv_aload_n hx hb dL_law_608 rfl (lv_at hl 3 rfl) ?_
  obtain ⟨⟨r2, S1⟩, hf, hj⟩ := sj_sources Sm hJ
  have hJ1 : JJ S1 := hj
  refine y_mi (As := []) (rest := []) E G hA hX.2.2.2.2 hml (tr_sources l D cI cJ cZ am Sm  hf) (cwV 0 hts (glM (L := [Cond.methodLink RL 241 yX12_sources, Cond.instanceMethod yX12_sources, Cond.selects RX12 yX12_sources yX12_sources, Cond.initialized RX12]) (gl_in [(9, 84), (9, 85), (9, 86), (1, 14)] (by decide +kernel) (by decide +kernel)) ⟨(t_of [Cond.code yX12_sources cX12_sources 1 (some .int)] [(9, 87)] (by decide +kernel) _ List.mem_cons_self), List.all_eq_true.mp (by decide +kernel : [Cond.code yX12_sources cX12_sources 1 (some .int)].all goodWord = true) _ List.mem_cons_self⟩) rfl rfl rfl (by decide +kernel) ⟨Nat.le_of_ble_eq_true rfl, Nat.le_of_ble_eq_true rfl⟩) rfl hl.1 rfl (lv_room (Nat.le_of_ble_eq_true rfl)) dL_law_609 ⟨by show _ ≤ 601024; omega, by show _ ≤ 7293034; omega⟩ (fun H locs G => ?_)
  refine lv_pop hx hb dL_law_612 rfl ?_
  refine lv_goto (tgt := 2439) hx hb dL_law_613 (by decide) ?_
  refine W.widen (k := 19 + T1.1 + (j + 1)) (n := 38467 + sg T1 + 6 * (j + 1)) (by omega) (by omega) ?_
  exact kk ad f g H locs ls hg hf rfl hV1 hrc1 hJ1 G hl
set_option maxHeartbeats 4000000 in
set_option maxRecDepth 100000 in
theorem y_a12 {p : Program} {e : Env} {s : State} {m : MethodId} {below : List Frame} {meth : Method} {c : Code} (l : Launch) (hst : l.stackTraces = false) {b L : Nat} {xs : Nat → Int32} (hx : p.tables.exec = Jvm.exec) (hb : c.code = code) (hml : c.maxLocals = 9) (hown : s.vm.findClass RL = some m.cls) (hts : ∀ w ∈ lw_tbl, w.before #[Value.ref b] s = true) (hX0 : va_X b L xs s s.heap) (hbl : b < s.heap.size) (hX : xT (fun q => s.heap.size ≤ q) s) (hN : nC s) (hTS : sAll s.heap.size s) {D : va_G} {cI cJ cZ cMic cSrc cSt cAI cAJ cD : ClassId} (hK : va_K D vwCl (CT cI cJ cZ cMic cSrc cSt cAI cAJ ++ [(cD, .double)]) s) {Q : State → Prop} {i j : Nat} (hi : i + 6 ≤ L) (hL : L ≤ 3072) (hj : j < 512) {aj ae : Nat} {ad am : Nat → Nat} {T : AT} {Sm : MS} {f : Nat → Int64} {g : Nat → UInt64} {ls : Array Slot} {H : Heap} {locs : List Loc} (hV : IV aR0 1586 aK1 aK2 T) (hrc : RC T) (hJ : JJ Sm) (G : gL cI cJ cZ cMic cSrc cSt cAI cAJ D ad (fun q => s.heap.size ≤ q) s.heap H locs T (oJ aj cJ f :: oD ae cD g :: MW cI cJ cZ am Sm)) (hl : lv_has ls 9 [(5, .int (nI i)), (4, .ref ae), (3, .ref aj), (2, .ref (am 0)), (1, .ref (ad 0)), (0, .ref b)]) (kk : ∀ {k1 : Nat} {r1 : Int32} {T1 : AT} {r2 : Int32} {S1 : MS} (ad2 : Nat → Nat) (f1 : Nat → Int64) (g1 : Nat → UInt64) (H1 : Heap) (locs1 : List Loc) (ls1 : Array Slot), g_X11_sourceAt T 0 (xs (i + 1)) (xs (i + 2)) (xs (i + 3)) = some (k1, r1, T1) → fr_sourceAt Sm (xs (i + 1)) (xs (i + 2)) (xs (i + 3)) = some (r2, S1) → ad2 0 = ad 0 → IV aR0 1586 aK1 aK2 T1 → RC T1 → JJ S1 → gL cI cJ cZ cMic cSrc cSt cAI cAJ D ad2 (fun q => s.heap.size ≤ q) s.heap H1 locs1 T1 (oJ aj cJ f1 :: oD ae cD g1 :: MW cI cJ cZ am S1) → lv_has ls1 9 [(5, .int (nI i)), (4, .ref ae), (3, .ref aj), (2, .ref (am 0)), (1, .ref (ad2 0)), (0, .ref b)] → W p l e room_1 s m #[Value.ref b] below meth c H1 locs1 (19 + T1.1 + (j + 1)) (38467 + sg T1 + 6 * (j + 1)) Q (F0 m 2439 ls1 [])) : W p l e room_1 s m #[Value.ref b] below meth c H locs (19 + T.1 + j) (38467 + sg T + 6 * j) Q (F0 m 616 ls []) := by
  have E : cE p c cL_law s m #[Value.ref b] lw_tbl D RL (CT cI cJ cZ cMic cSrc cSt cAI cAJ ++ [(cD, .double)]) := ⟨hx, hb, hts, hown, hK⟩
  have hA : ∀ q : Nat, s.heap.size ≤ q → s.heap.size ≤ q := fun _ h => h
  have h0T : 0 < T.1 := Nat.lt_of_lt_of_le (by decide) hV.1.2.2
  have h0s : T.2.1 0 = (11, 0) := hV.2.1 0 ⟨by decide, by decide +kernel, by decide +kernel⟩
  refine lv_aload_n hx hb dL_law_616 rfl (lv_at hl 4 rfl) ?_
  refine lv_aload_n hx hb dL_law_617 rfl (lv_at hl 5 rfl) ?_
  refine lv_iload hx hb dL_law_618 (lv_at hl 0 rfl) ?_
  refine lv_iconst (v := 1) hx hb dL_law_620 (by decide) ?_
  refine lv_iadd hx hb dL_law_621 ?_
  refine lv_to (y := nI (i + 1)) (nI_add i 1) ?_
  refine va_sld hx hb hX0 hbl (Nat.not_le.mpr hbl) G.2.2 (i := nI (i + 1)) (vp_in_nI (n := i + 1) (N := L) (by omega) (by omega)) dL_law_622 ?_
  refine lv_to (y := xs (i + 1)) (congrArg xs (nI_clamp (by omega))) ?_
  refine lv_aload_n hx hb dL_law_623 rfl (lv_at hl 5 rfl) ?_
  refine lv_iload hx hb dL_law_624 (lv_at hl 0 rfl) ?_
  refine lv_iconst (v := 2) hx hb dL_law_626 (by decide) ?_
  refine lv_iadd hx hb dL_law_627 ?_
  refine lv_to (y := nI (i + 2)) (nI_add i 2) ?_
  refine va_sld hx hb hX0 hbl (Nat.not_le.mpr hbl) G.2.2 (i := nI (i + 2)) (vp_in_nI (n := i + 2) (N := L) (by omega) (by omega)) dL_law_628 ?_
  refine lv_to (y := xs (i + 2)) (congrArg xs (nI_clamp (by omega))) ?_
  refine lv_aload_n hx hb dL_law_629 rfl (lv_at hl 5 rfl) ?_
  refine lv_iload hx hb dL_law_630 (lv_at hl 0 rfl) ?_
  refine lv_iconst (v := 3) hx hb dL_law_632 (by decide) ?_
  refine lv_iadd hx hb dL_law_633 ?_
  refine lv_to (y := nI (i + 3)) (nI_add i 3) ?_
  refine va_sld hx hb hX0 hbl (Nat.not_le.mpr hbl) G.2.2 (i := nI (i + 3)) (vp_in_nI (n := i + 3) (N := L) (by omega) (by omega)) dL_law_634 ?_
  refine lv_to (y := xs (i + 3)) (congrArg xs (nI_clamp (by omega))) ?_
  refine lv_aload_n hx hb dL_law_635 rfl (lv_at hl 2 rfl) ?_
  obtain ⟨⟨k1, r1, T1⟩, hg, hc⟩ := cs_X11_sourceAt T 0 (xs (i + 1)) (xs (i + 2)) (xs (i + 3)) hV (by decide +kernel)
  have hV1 : IV aR0 1586 aK1 aK2 T1 := by rw [show T1 = T from hc.1]; exact hV
  have hg1 := (gl_sp (s_X11_sourceAt hg))
  have hg2 := sg_le hg1
  have hg3 := hg1.1
  have hk := hV1.2.2.2.2.2.2
  have hrc1 := hg1.2.2 hrc
  have hr0 := a_room
  refine l_v (h0 := s.heap.size) (As := [.ref (ad 0), .int (xs (i + 1)), .int (xs (i + 2)), .int (xs (i + 3)), .ref aj]) (rest := []) E G hA hX hN (fun _ h => h) hTS hml (v_sourceAt l hst D s.heap.size ad T 0 (xs (i + 1)) (xs (i + 2)) (xs (i + 3)) aj f hg hrc h0T h0s) (vx_cwSW 5 hts (glA (L := [Cond.methodLink RL 242 yL_sourceAt, Cond.static yL_sourceAt, Cond.initialized RL]) (gl_in [(5, 79), (5, 80), (1, 0)] (by decide +kernel) (by decide +kernel)) ⟨(t_of [Cond.codeWith yL_sourceAt cL_sourceAt 6 (some .int) [(0, 12, 15, 21), (0, 12, 19, 13), (0, 12, 23, 15)]] [(5, 81)] (by decide +kernel) _ List.mem_cons_self), List.all_eq_true.mp (by decide +kernel : [Cond.codeWith yL_sourceAt cL_sourceAt 6 (some .int) [(0, 12, 15, 21), (0, 12, 19, 13), (0, 12, 23, 15)]].all goodWord = true) _ List.mem_cons_self⟩) rfl rfl rfl (by decide +kernel) ⟨Nat.le_of_ble_eq_true rfl, Nat.le_of_ble_eq_true rfl⟩) rfl hl.1 rfl (lv_room (Nat.le_of_ble_eq_true rfl)) dL_law_636 ⟨by show _ ≤ 601024; omega, by show _ ≤ 7293034; omega⟩ ?_
  intro ad2 H locs had G
  rw [← had 0 h0T] at hl
  refine lv_istore (lv' := [(6, .int (vck 1 2 3 k1)), (5, .int (nI i)), (4, .ref ae), (3, .ref aj), (2, .ref (am 0)), (1, .ref (ad2 0)), (0, .ref b)]) hx hb dL_law_639 hl (by decide) rfl (fun ls hl => ?_)
  refine lv_aload_n hx hb dL_law_641 rfl (lv_at hl 4 rfl) ?_
  refine lv_aload_n hx hb dL_law_642 rfl (lv_at hl 6 rfl) ?_
  refine lv_iload hx hb dL_law_643 (lv_at hl 1 rfl) ?_
  refine lv_iconst (v := 1) hx hb dL_law_645 (by decide) ?_
  refine lv_iadd hx hb dL_law_646 ?_
  refine lv_to (y := nI (i + 1)) (nI_add i 1) ?_
  refine va_sld hx hb hX0 hbl (Nat.not_le.mpr hbl) G.2.2 (i := nI (i + 1)) (vp_in_nI (n := i + 1) (N := L) (by omega) (by omega)) dL_law_647 ?_
  refine lv_to (y := xs (i + 1)) (congrArg xs (nI_clamp (by omega))) ?_
  refine lv_aload_n hx hb dL_law_648 rfl (lv_at hl 6 rfl) ?_
  refine lv_iload hx hb dL_law_649 (lv_at hl 1 rfl) ?_
  refine lv_iconst (v := 2) hx hb dL_law_651 (by decide) ?_
  refine lv_iadd hx hb dL_law_652 ?_
  refine lv_to (y := nI (i + 2)) (nI_add i 2) ?_
  refine va_sld hx hb hX0 hbl (Nat.not_le.mpr hbl) G.2.2 (i := nI (i + 2)) (vp_in_nI (n := i + 2) (N := L) (by omega) (by omega)) dL_law_653 ?_
  refine lv_to (y := xs (i + 2)) (congrArg xs (nI_clamp (by omega))) ?_
  refine lv_aload_n hx hb dL_law_654 rfl (lv_at hl 6 rfl) ?_
  refine lv_iload hx hb dL_law_655 (lv_at hl 1 rfl) ?_
  refine lv_iconst (v := 3) hx hb dL_law_657 (by decide) ?_
  refine lv_iadd hx hb dL_law_658 ?_
  refine lv_to (y := nI (i + 3)) (nI_add i 3) ?_
  refine va_sld hx hb hX0 hbl (Nat.not_le.mpr hbl) G.2.2 (i := nI (i + 3)) (vp_in_nI (n := i + 3) (N := L) (by omega) (by omega)) dL_law_659 ?_
  refine lv_to (y := xs (i + 3)) (congrArg xs (nI_clamp (by omega))) ?_
  obtain ⟨⟨r2, S1⟩, hf, hj⟩ := sj_sourceAt Sm (xs (i + 1)) (xs (i + 2)) (xs (i + 3)) hJ
  have hJ1 : JJ S1 := hj
  refine y_mi (As := [.int (xs (i + 1)), .int (xs (i + 2)), .int (xs (i + 3))]) (rest := []) E G hA hX.2.2.2.2 hml (tr_sourceAt l D cI cJ cZ am Sm (xs (i + 1)) (xs (i + 2)) (xs (i + 3)) hf) (cwV 3 hts (glM (L := [Cond.methodLink RL 245 yX12_sourceAt, Cond.instanceMethod yX12_sourceAt, Cond.selects RX12 yX12_sourceAt yX12_sourceAt, Cond.initialized RX12]) (gl_in [(9, 88), (9, 89), (9, 90), (1, 14)] (by decide +kernel) (by decide +kernel)) ⟨(t_of [Cond.code yX12_sourceAt cX12_sourceAt 4 (some .int)] [(9, 91)] (by decide +kernel) _ List.mem_cons_self), List.all_eq_true.mp (by decide +kernel : [Cond.code yX12_sourceAt cX12_sourceAt 4 (some .int)].all goodWord = true) _ List.mem_cons_self⟩) rfl rfl rfl (by decide +kernel) ⟨Nat.le_of_ble_eq_true rfl, Nat.le_of_ble_eq_true rfl⟩) rfl hl.1 rfl (lv_room (Nat.le_of_ble_eq_true rfl)) dL_law_660 ⟨by show _ ≤ 601024; omega, by show _ ≤ 7293034; omega⟩ (fun H locs G => ?_)
  refine lv_istore (lv' := [(7, .int r2), (6, .int (vck 1 2 3 k1)), (5, .int (nI i)), (4, .ref ae), (3, .ref aj), (2, .ref (am 0)), (1, .ref (ad2 0)), (0, .ref b)]) hx hb dL_law_663 hl (by decide) rfl (fun ls hl => ?_)
  refine lv_goto (tgt := 2439) hx hb dL_law_665 (by decide) ?_
  have hl := lv_sub hl [2, 3, 4, 5, 6, 7] rfl
  refine W.widen (k := 19 + T1.1 + (j + 1)) (n := 38467 + sg T1 + 6 * (j + 1)) (by omega) (by omega) ?_
  exact kk ad2 (vfJ k1 f r1.toInt64) g H locs ls hg hf (had 0 h0T) hV1 hrc1 hJ1 G hl
set_option maxHeartbeats 4000000 in
set_option maxRecDepth 100000 in
theorem y_a13 {p : Program} {e : Env} {s : State} {m : MethodId} {below : List Frame} {meth : Method} {c : Code} (l : Launch) (hst : l.stackTraces = false) {b L : Nat} {xs : Nat → Int32} (hx : p.tables.exec = Jvm.exec) (hb : c.code = code) (hml : c.maxLocals = 9) (hown : s.vm.findClass RL = some m.cls) (hts : ∀ w ∈ lw_tbl, w.before #[Value.ref b] s = true) (hX0 : va_X b L xs s s.heap) (hbl : b < s.heap.size) (hX : xT (fun q => s.heap.size ≤ q) s) (hN : nC s) (hTS : sAll s.heap.size s) {D : va_G} {cI cJ cZ cMic cSrc cSt cAI cAJ cD : ClassId} (hK : va_K D vwCl (CT cI cJ cZ cMic cSrc cSt cAI cAJ ++ [(cD, .double)]) s) {Q : State → Prop} {i j : Nat} (hi : i + 6 ≤ L) (hL : L ≤ 3072) (hj : j < 512) {aj ae : Nat} {ad am : Nat → Nat} {T : AT} {Sm : MS} {f : Nat → Int64} {g : Nat → UInt64} {ls : Array Slot} {H : Heap} {locs : List Loc} (hV : IV aR0 1586 aK1 aK2 T) (hrc : RC T) (hJ : JJ Sm) (G : gL cI cJ cZ cMic cSrc cSt cAI cAJ D ad (fun q => s.heap.size ≤ q) s.heap H locs T (oJ aj cJ f :: oD ae cD g :: MW cI cJ cZ am Sm)) (hl : lv_has ls 9 [(5, .int (nI i)), (4, .ref ae), (3, .ref aj), (2, .ref (am 0)), (1, .ref (ad 0)), (0, .ref b)]) (kk : ∀ {k1 : Nat} {r1 : Int32} {T1 : AT} {r2 : Int32} {S1 : MS} (ad2 : Nat → Nat) (f1 : Nat → Int64) (g1 : Nat → UInt64) (H1 : Heap) (locs1 : List Loc) (ls1 : Array Slot), g_X11_isOn T 0 (xs (i + 1)) = some (k1, r1, T1) → fr_isOn Sm (xs (i + 1)) = some (r2, S1) → ad2 0 = ad 0 → IV aR0 1586 aK1 aK2 T1 → RC T1 → JJ S1 → gL cI cJ cZ cMic cSrc cSt cAI cAJ D ad2 (fun q => s.heap.size ≤ q) s.heap H1 locs1 T1 (oJ aj cJ f1 :: oD ae cD g1 :: MW cI cJ cZ am S1) → lv_has ls1 9 [(5, .int (nI i)), (4, .ref ae), (3, .ref aj), (2, .ref (am 0)), (1, .ref (ad2 0)), (0, .ref b)] → W p l e room_1 s m #[Value.ref b] below meth c H1 locs1 (19 + T1.1 + (j + 1)) (38467 + sg T1 + 6 * (j + 1)) Q (F0 m 2439 ls1 [])) : W p l e room_1 s m #[Value.ref b] below meth c H locs (19 + T.1 + j) (38467 + sg T + 6 * j) Q (F0 m 668 ls []) := by
  have E : cE p c cL_law s m #[Value.ref b] lw_tbl D RL (CT cI cJ cZ cMic cSrc cSt cAI cAJ ++ [(cD, .double)]) := ⟨hx, hb, hts, hown, hK⟩
  have hA : ∀ q : Nat, s.heap.size ≤ q → s.heap.size ≤ q := fun _ h => h
  have h0T : 0 < T.1 := Nat.lt_of_lt_of_le (by decide) hV.1.2.2
  have h0s : T.2.1 0 = (11, 0) := hV.2.1 0 ⟨by decide, by decide +kernel, by decide +kernel⟩
  refine lv_aload_n hx hb dL_law_668 rfl (lv_at hl 4 rfl) ?_
  refine lv_aload_n hx hb dL_law_669 rfl (lv_at hl 5 rfl) ?_
  refine lv_iload hx hb dL_law_670 (lv_at hl 0 rfl) ?_
  refine lv_iconst (v := 1) hx hb dL_law_672 (by decide) ?_
  refine lv_iadd hx hb dL_law_673 ?_
  refine lv_to (y := nI (i + 1)) (nI_add i 1) ?_
  refine va_sld hx hb hX0 hbl (Nat.not_le.mpr hbl) G.2.2 (i := nI (i + 1)) (vp_in_nI (n := i + 1) (N := L) (by omega) (by omega)) dL_law_674 ?_
  refine lv_to (y := xs (i + 1)) (congrArg xs (nI_clamp (by omega))) ?_
  refine lv_aload_n hx hb dL_law_675 rfl (lv_at hl 2 rfl) ?_
  obtain ⟨⟨k1, r1, T1⟩, hg, hc⟩ := cs_X11_isOn T 0 (xs (i + 1)) hV (by decide +kernel)
  have hV1 : IV aR0 1586 aK1 aK2 T1 := by rw [show T1 = T from hc.1]; exact hV
  have hg1 := (gl_sp (s_X11_isOn hg))
  have hg2 := sg_le hg1
  have hg3 := hg1.1
  have hk := hV1.2.2.2.2.2.2
  have hrc1 := hg1.2.2 hrc
  have hr0 := a_room
  refine l_v (h0 := s.heap.size) (As := [.ref (ad 0), .int (xs (i + 1)), .ref aj]) (rest := []) E G hA hX hN (fun _ h => h) hTS hml (v_isOn l hst D s.heap.size ad T 0 (xs (i + 1)) aj f hg hrc h0T h0s) (vx_cwSW 3 hts (glA (L := [Cond.methodLink RL 246 yL_isOn, Cond.static yL_isOn, Cond.initialized RL]) (gl_in [(5, 91), (5, 92), (1, 0)] (by decide +kernel) (by decide +kernel)) ⟨(t_of [Cond.codeWith yL_isOn cL_isOn 4 (some .int) [(0, 16, 19, 21), (0, 16, 22, 13)]] [(5, 93)] (by decide +kernel) _ List.mem_cons_self), List.all_eq_true.mp (by decide +kernel : [Cond.codeWith yL_isOn cL_isOn 4 (some .int) [(0, 16, 19, 21), (0, 16, 22, 13)]].all goodWord = true) _ List.mem_cons_self⟩) rfl rfl rfl (by decide +kernel) ⟨Nat.le_of_ble_eq_true rfl, Nat.le_of_ble_eq_true rfl⟩) rfl hl.1 rfl (lv_room (Nat.le_of_ble_eq_true rfl)) dL_law_676 ⟨by show _ ≤ 601024; omega, by show _ ≤ 7293034; omega⟩ ?_
  intro ad2 H locs had G
  rw [← had 0 h0T] at hl
  refine lv_istore (lv' := [(6, .int (vck 1 2 0 k1)), (5, .int (nI i)), (4, .ref ae), (3, .ref aj), (2, .ref (am 0)), (1, .ref (ad2 0)), (0, .ref b)]) hx hb dL_law_679 hl (by decide) rfl (fun ls hl => ?_)
  refine lv_aload_n hx hb dL_law_681 rfl (lv_at hl 4 rfl) ?_
  refine lv_aload_n hx hb dL_law_682 rfl (lv_at hl 6 rfl) ?_
  refine lv_iload hx hb dL_law_683 (lv_at hl 1 rfl) ?_
  refine lv_iconst (v := 1) hx hb dL_law_685 (by decide) ?_
  refine lv_iadd hx hb dL_law_686 ?_
  refine lv_to (y := nI (i + 1)) (nI_add i 1) ?_
  refine va_sld hx hb hX0 hbl (Nat.not_le.mpr hbl) G.2.2 (i := nI (i + 1)) (vp_in_nI (n := i + 1) (N := L) (by omega) (by omega)) dL_law_687 ?_
  refine lv_to (y := xs (i + 1)) (congrArg xs (nI_clamp (by omega))) ?_
  obtain ⟨⟨r2, S1⟩, hf, hj⟩ := sj_isOn Sm (xs (i + 1)) hJ
  have hJ1 : JJ S1 := hj
  refine y_mi (As := [.int (xs (i + 1))]) (rest := []) E G hA hX.2.2.2.2 hml (tr_isOn l D cI cJ cZ am Sm (xs (i + 1)) hf) (cwV 1 hts (glM (L := [Cond.methodLink RL 248 yX12_isOn, Cond.instanceMethod yX12_isOn, Cond.selects RX12 yX12_isOn yX12_isOn, Cond.initialized RX12]) (gl_in [(9, 100), (9, 101), (9, 102), (1, 14)] (by decide +kernel) (by decide +kernel)) ⟨(t_of [Cond.code yX12_isOn cX12_isOn 2 (some .boolean)] [(9, 103)] (by decide +kernel) _ List.mem_cons_self), List.all_eq_true.mp (by decide +kernel : [Cond.code yX12_isOn cX12_isOn 2 (some .boolean)].all goodWord = true) _ List.mem_cons_self⟩) rfl rfl rfl (by decide +kernel) ⟨Nat.le_of_ble_eq_true rfl, Nat.le_of_ble_eq_true rfl⟩) rfl hl.1 rfl (lv_room (Nat.le_of_ble_eq_true rfl)) dL_law_688 ⟨by show _ ≤ 601024; omega, by show _ ≤ 7293034; omega⟩ (fun H locs G => ?_)
  refine lv_istore (lv' := [(7, .int r2), (6, .int (vck 1 2 0 k1)), (5, .int (nI i)), (4, .ref ae), (3, .ref aj), (2, .ref (am 0)), (1, .ref (ad2 0)), (0, .ref b)]) hx hb dL_law_691 hl (by decide) rfl (fun ls hl => ?_)
  refine lv_goto (tgt := 2439) hx hb dL_law_693 (by decide) ?_
  have hl := lv_sub hl [2, 3, 4, 5, 6, 7] rfl
  refine W.widen (k := 19 + T1.1 + (j + 1)) (n := 38467 + sg T1 + 6 * (j + 1)) (by omega) (by omega) ?_
  exact kk ad2 (vfJ k1 f (vzb r1)) g H locs ls hg hf (had 0 h0T) hV1 hrc1 hJ1 G hl
set_option maxHeartbeats 4000000 in
set_option maxRecDepth 100000 in
theorem y_a14 {p : Program} {e : Env} {s : State} {m : MethodId} {below : List Frame} {meth : Method} {c : Code} (l : Launch) (hst : l.stackTraces = false) {b L : Nat} {xs : Nat → Int32} (hx : p.tables.exec = Jvm.exec) (hb : c.code = code) (hml : c.maxLocals = 9) (hown : s.vm.findClass RL = some m.cls) (hts : ∀ w ∈ lw_tbl, w.before #[Value.ref b] s = true) (hX0 : va_X b L xs s s.heap) (hbl : b < s.heap.size) (hX : xT (fun q => s.heap.size ≤ q) s) (hN : nC s) (hTS : sAll s.heap.size s) {D : va_G} {cI cJ cZ cMic cSrc cSt cAI cAJ cD : ClassId} (hK : va_K D vwCl (CT cI cJ cZ cMic cSrc cSt cAI cAJ ++ [(cD, .double)]) s) {Q : State → Prop} {i j : Nat} (hi : i + 6 ≤ L) (hL : L ≤ 3072) (hj : j < 512) {aj ae : Nat} {ad am : Nat → Nat} {T : AT} {Sm : MS} {f : Nat → Int64} {g : Nat → UInt64} {ls : Array Slot} {H : Heap} {locs : List Loc} (hV : IV aR0 1586 aK1 aK2 T) (hrc : RC T) (hJ : JJ Sm) (G : gL cI cJ cZ cMic cSrc cSt cAI cAJ D ad (fun q => s.heap.size ≤ q) s.heap H locs T (oJ aj cJ f :: oD ae cD g :: MW cI cJ cZ am Sm)) (hl : lv_has ls 9 [(5, .int (nI i)), (4, .ref ae), (3, .ref aj), (2, .ref (am 0)), (1, .ref (ad 0)), (0, .ref b)]) (kk : ∀ {k1 : Nat} {r1 : Int32} {T1 : AT} {r2 : Int32} {S1 : MS} (ad2 : Nat → Nat) (f1 : Nat → Int64) (g1 : Nat → UInt64) (H1 : Heap) (locs1 : List Loc) (ls1 : Array Slot), g_X11_waveAt T 0 (xs (i + 1)) (xs (i + 2)) = some (k1, r1, T1) → fr_waveAt Sm (xs (i + 1)) (xs (i + 2)) = some (r2, S1) → ad2 0 = ad 0 → IV aR0 1586 aK1 aK2 T1 → RC T1 → JJ S1 → gL cI cJ cZ cMic cSrc cSt cAI cAJ D ad2 (fun q => s.heap.size ≤ q) s.heap H1 locs1 T1 (oJ aj cJ f1 :: oD ae cD g1 :: MW cI cJ cZ am S1) → lv_has ls1 9 [(5, .int (nI i)), (4, .ref ae), (3, .ref aj), (2, .ref (am 0)), (1, .ref (ad2 0)), (0, .ref b)] → W p l e room_1 s m #[Value.ref b] below meth c H1 locs1 (19 + T1.1 + (j + 1)) (38467 + sg T1 + 6 * (j + 1)) Q (F0 m 2439 ls1 [])) : W p l e room_1 s m #[Value.ref b] below meth c H locs (19 + T.1 + j) (38467 + sg T + 6 * j) Q (F0 m 696 ls []) := by
  have E : cE p c cL_law s m #[Value.ref b] lw_tbl D RL (CT cI cJ cZ cMic cSrc cSt cAI cAJ ++ [(cD, .double)]) := ⟨hx, hb, hts, hown, hK⟩
  have hA : ∀ q : Nat, s.heap.size ≤ q → s.heap.size ≤ q := fun _ h => h
  have h0T : 0 < T.1 := Nat.lt_of_lt_of_le (by decide) hV.1.2.2
  have h0s : T.2.1 0 = (11, 0) := hV.2.1 0 ⟨by decide, by decide +kernel, by decide +kernel⟩
  refine lv_aload_n hx hb dL_law_696 rfl (lv_at hl 4 rfl) ?_
  refine lv_aload_n hx hb dL_law_697 rfl (lv_at hl 5 rfl) ?_
  refine lv_iload hx hb dL_law_698 (lv_at hl 0 rfl) ?_
  refine lv_iconst (v := 1) hx hb dL_law_700 (by decide) ?_
  refine lv_iadd hx hb dL_law_701 ?_
  refine lv_to (y := nI (i + 1)) (nI_add i 1) ?_
  refine va_sld hx hb hX0 hbl (Nat.not_le.mpr hbl) G.2.2 (i := nI (i + 1)) (vp_in_nI (n := i + 1) (N := L) (by omega) (by omega)) dL_law_702 ?_
  refine lv_to (y := xs (i + 1)) (congrArg xs (nI_clamp (by omega))) ?_
  refine lv_aload_n hx hb dL_law_703 rfl (lv_at hl 5 rfl) ?_
  refine lv_iload hx hb dL_law_704 (lv_at hl 0 rfl) ?_
  refine lv_iconst (v := 2) hx hb dL_law_706 (by decide) ?_
  refine lv_iadd hx hb dL_law_707 ?_
  refine lv_to (y := nI (i + 2)) (nI_add i 2) ?_
  refine va_sld hx hb hX0 hbl (Nat.not_le.mpr hbl) G.2.2 (i := nI (i + 2)) (vp_in_nI (n := i + 2) (N := L) (by omega) (by omega)) dL_law_708 ?_
  refine lv_to (y := xs (i + 2)) (congrArg xs (nI_clamp (by omega))) ?_
  refine lv_aload_n hx hb dL_law_709 rfl (lv_at hl 2 rfl) ?_
  obtain ⟨⟨k1, r1, T1⟩, hg, hc⟩ := cs_X11_waveAt T 0 (xs (i + 1)) (xs (i + 2)) hV (by decide +kernel)
  have hV1 : IV aR0 1586 aK1 aK2 T1 := by rw [show T1 = T from hc.1]; exact hV
  have hg1 := (gl_sp (s_X11_waveAt hg))
  have hg2 := sg_le hg1
  have hg3 := hg1.1
  have hk := hV1.2.2.2.2.2.2
  have hrc1 := hg1.2.2 hrc
  have hr0 := a_room
  refine l_v (h0 := s.heap.size) (As := [.ref (ad 0), .int (xs (i + 1)), .int (xs (i + 2)), .ref aj]) (rest := []) E G hA hX hN (fun _ h => h) hTS hml (v_waveAt l hst D s.heap.size ad T 0 (xs (i + 1)) (xs (i + 2)) aj f hg hrc h0T h0s) (vx_cwSW 4 hts (glA (L := [Cond.methodLink RL 249 yL_waveAt, Cond.static yL_waveAt, Cond.initialized RL]) (gl_in [(5, 98), (5, 99), (1, 0)] (by decide +kernel) (by decide +kernel)) ⟨(t_of [Cond.codeWith yL_waveAt cL_waveAt 5 (some .int) [(0, 10, 13, 21), (0, 10, 17, 13), (0, 10, 21, 15)]] [(5, 100)] (by decide +kernel) _ List.mem_cons_self), List.all_eq_true.mp (by decide +kernel : [Cond.codeWith yL_waveAt cL_waveAt 5 (some .int) [(0, 10, 13, 21), (0, 10, 17, 13), (0, 10, 21, 15)]].all goodWord = true) _ List.mem_cons_self⟩) rfl rfl rfl (by decide +kernel) ⟨Nat.le_of_ble_eq_true rfl, Nat.le_of_ble_eq_true rfl⟩) rfl hl.1 rfl (lv_room (Nat.le_of_ble_eq_true rfl)) dL_law_710 ⟨by show _ ≤ 601024; omega, by show _ ≤ 7293034; omega⟩ ?_
  intro ad2 H locs had G
  rw [← had 0 h0T] at hl
  refine lv_istore (lv' := [(6, .int (vck 1 2 3 k1)), (5, .int (nI i)), (4, .ref ae), (3, .ref aj), (2, .ref (am 0)), (1, .ref (ad2 0)), (0, .ref b)]) hx hb dL_law_713 hl (by decide) rfl (fun ls hl => ?_)
  refine lv_aload_n hx hb dL_law_715 rfl (lv_at hl 4 rfl) ?_
  refine lv_aload_n hx hb dL_law_716 rfl (lv_at hl 6 rfl) ?_
  refine lv_iload hx hb dL_law_717 (lv_at hl 1 rfl) ?_
  refine lv_iconst (v := 1) hx hb dL_law_719 (by decide) ?_
  refine lv_iadd hx hb dL_law_720 ?_
  refine lv_to (y := nI (i + 1)) (nI_add i 1) ?_
  refine va_sld hx hb hX0 hbl (Nat.not_le.mpr hbl) G.2.2 (i := nI (i + 1)) (vp_in_nI (n := i + 1) (N := L) (by omega) (by omega)) dL_law_721 ?_
  refine lv_to (y := xs (i + 1)) (congrArg xs (nI_clamp (by omega))) ?_
  refine lv_aload_n hx hb dL_law_722 rfl (lv_at hl 6 rfl) ?_
  refine lv_iload hx hb dL_law_723 (lv_at hl 1 rfl) ?_
  refine lv_iconst (v := 2) hx hb dL_law_725 (by decide) ?_
  refine lv_iadd hx hb dL_law_726 ?_
  refine lv_to (y := nI (i + 2)) (nI_add i 2) ?_
  refine va_sld hx hb hX0 hbl (Nat.not_le.mpr hbl) G.2.2 (i := nI (i + 2)) (vp_in_nI (n := i + 2) (N := L) (by omega) (by omega)) dL_law_727 ?_
  refine lv_to (y := xs (i + 2)) (congrArg xs (nI_clamp (by omega))) ?_
  obtain ⟨⟨r2, S1⟩, hf, hj⟩ := sj_waveAt Sm (xs (i + 1)) (xs (i + 2)) hJ
  have hJ1 : JJ S1 := hj
  refine y_mi (As := [.int (xs (i + 1)), .int (xs (i + 2))]) (rest := []) E G hA hX.2.2.2.2 hml (tr_waveAt l D cI cJ cZ am Sm (xs (i + 1)) (xs (i + 2)) hf) (cwV 2 hts (glM (L := [Cond.methodLink RL 251 yX12_waveAt, Cond.instanceMethod yX12_waveAt, Cond.selects RX12 yX12_waveAt yX12_waveAt, Cond.initialized RX12]) (gl_in [(9, 104), (9, 105), (9, 106), (1, 14)] (by decide +kernel) (by decide +kernel)) ⟨(t_of [Cond.code yX12_waveAt cX12_waveAt 3 (some .int)] [(9, 107)] (by decide +kernel) _ List.mem_cons_self), List.all_eq_true.mp (by decide +kernel : [Cond.code yX12_waveAt cX12_waveAt 3 (some .int)].all goodWord = true) _ List.mem_cons_self⟩) rfl rfl rfl (by decide +kernel) ⟨Nat.le_of_ble_eq_true rfl, Nat.le_of_ble_eq_true rfl⟩) rfl hl.1 rfl (lv_room (Nat.le_of_ble_eq_true rfl)) dL_law_728 ⟨by show _ ≤ 601024; omega, by show _ ≤ 7293034; omega⟩ (fun H locs G => ?_)
  refine lv_istore (lv' := [(7, .int r2), (6, .int (vck 1 2 3 k1)), (5, .int (nI i)), (4, .ref ae), (3, .ref aj), (2, .ref (am 0)), (1, .ref (ad2 0)), (0, .ref b)]) hx hb dL_law_731 hl (by decide) rfl (fun ls hl => ?_)
  refine lv_goto (tgt := 2439) hx hb dL_law_733 (by decide) ?_
  have hl := lv_sub hl [2, 3, 4, 5, 6, 7] rfl
  refine W.widen (k := 19 + T1.1 + (j + 1)) (n := 38467 + sg T1 + 6 * (j + 1)) (by omega) (by omega) ?_
  exact kk ad2 (vfJ k1 f r1.toInt64) g H locs ls hg hf (had 0 h0T) hV1 hrc1 hJ1 G hl
set_option maxHeartbeats 4000000 in
set_option maxRecDepth 100000 in
theorem y_a15 {p : Program} {e : Env} {s : State} {m : MethodId} {below : List Frame} {meth : Method} {c : Code} (l : Launch) (hst : l.stackTraces = false) {b L : Nat} {xs : Nat → Int32} (hx : p.tables.exec = Jvm.exec) (hb : c.code = code) (hml : c.maxLocals = 9) (hown : s.vm.findClass RL = some m.cls) (hts : ∀ w ∈ lw_tbl, w.before #[Value.ref b] s = true) (hX0 : va_X b L xs s s.heap) (hbl : b < s.heap.size) (hX : xT (fun q => s.heap.size ≤ q) s) (hN : nC s) (hTS : sAll s.heap.size s) {D : va_G} {cI cJ cZ cMic cSrc cSt cAI cAJ cD : ClassId} (hK : va_K D vwCl (CT cI cJ cZ cMic cSrc cSt cAI cAJ ++ [(cD, .double)]) s) {Q : State → Prop} {i j : Nat} (hi : i + 6 ≤ L) (hL : L ≤ 3072) (hj : j < 512) {aj ae : Nat} {ad am : Nat → Nat} {T : AT} {Sm : MS} {f : Nat → Int64} {g : Nat → UInt64} {ls : Array Slot} {H : Heap} {locs : List Loc} (hV : IV aR0 1586 aK1 aK2 T) (hrc : RC T) (hJ : JJ Sm) (G : gL cI cJ cZ cMic cSrc cSt cAI cAJ D ad (fun q => s.heap.size ≤ q) s.heap H locs T (oJ aj cJ f :: oD ae cD g :: MW cI cJ cZ am Sm)) (hl : lv_has ls 9 [(5, .int (nI i)), (4, .ref ae), (3, .ref aj), (2, .ref (am 0)), (1, .ref (ad 0)), (0, .ref b)]) (kk : ∀ {r1 : Int32} {T1 : AT} {r2 : Int32} {S1 : MS} (ad2 : Nat → Nat) (f1 : Nat → Int64) (g1 : Nat → UInt64) (H1 : Heap) (locs1 : List Loc) (ls1 : Array Slot), g_X11_samples T 0 = some (r1, T1) → fr_samples Sm = some (r2, S1) → ad2 0 = ad 0 → IV aR0 1586 aK1 aK2 T1 → RC T1 → JJ S1 → gL cI cJ cZ cMic cSrc cSt cAI cAJ D ad2 (fun q => s.heap.size ≤ q) s.heap H1 locs1 T1 (oJ aj cJ f1 :: oD ae cD g1 :: MW cI cJ cZ am S1) → lv_has ls1 9 [(5, .int (nI i)), (4, .ref ae), (3, .ref aj), (2, .ref (am 0)), (1, .ref (ad2 0)), (0, .ref b)] → W p l e room_1 s m #[Value.ref b] below meth c H1 locs1 (19 + T1.1 + (j + 1)) (38467 + sg T1 + 6 * (j + 1)) Q (F0 m 2439 ls1 [])) : W p l e room_1 s m #[Value.ref b] below meth c H locs (19 + T.1 + j) (38467 + sg T + 6 * j) Q (F0 m 736 ls []) := by
  have E : cE p c cL_law s m #[Value.ref b] lw_tbl D RL (CT cI cJ cZ cMic cSrc cSt cAI cAJ ++ [(cD, .double)]) := ⟨hx, hb, hts, hown, hK⟩
  have hA : ∀ q : Nat, s.heap.size ≤ q → s.heap.size ≤ q := fun _ h => h
  have h0T : 0 < T.1 := Nat.lt_of_lt_of_le (by decide) hV.1.2.2
  have h0s : T.2.1 0 = (11, 0) := hV.2.1 0 ⟨by decide, by decide +kernel, by decide +kernel⟩
  refine lv_aload_n hx hb dL_law_736 rfl (lv_at hl 4 rfl) ?_
  obtain ⟨⟨r1, T1⟩, hg, hc⟩ := cs_X11_samples T 0 hV (by decide +kernel)
  have hV1 : IV aR0 1586 aK1 aK2 T1 := by rw [show T1 = T from hc.1]; exact hV
  have hg1 := (gl_sp (s_X11_samples hg))
  have hg2 := sg_le hg1
  have hg3 := hg1.1
  have hk := hV1.2.2.2.2.2.2
  have hrc1 := hg1.2.2 hrc
  have hr0 := a_room
  refine t_cvi (As := []) (rest := []) E G hA hX hX.2.2.2.1 hml (u_X11_samples l hst D cI cJ cZ cMic cSrc cSt cAI cAJ ad T 0  hg) (cwV 0 hts (glA (L := [Cond.methodLink RL 252 yX11_samples, Cond.instanceMethod yX11_samples, Cond.selects RX11 yX11_samples yX11_samples, Cond.initialized RX11]) (gl_in [(3, 84), (3, 85), (3, 86), (1, 1)] (by decide +kernel) (by decide +kernel)) ⟨(t_of [Cond.code yX11_samples cX11_samples 1 (some .int)] [(3, 87)] (by decide +kernel) _ List.mem_cons_self), List.all_eq_true.mp (by decide +kernel : [Cond.code yX11_samples cX11_samples 1 (some .int)].all goodWord = true) _ List.mem_cons_self⟩) rfl rfl rfl (by decide +kernel) ⟨Nat.le_of_ble_eq_true rfl, Nat.le_of_ble_eq_true rfl⟩) h0T (cc_o11 h0s) rfl rfl hl.1 rfl (lv_room (Nat.le_of_ble_eq_true rfl)) dL_law_737 ⟨by show _ ≤ 601024; omega, by show _ ≤ 7293034; omega⟩ ?_
  intro r9 T9 H locs hp G
  obtain ⟨hr9, hS1⟩ := hp
  rw [hS1] at G
  refine lv_to (y := r1) hr9 ?_
  refine lv_pop hx hb dL_law_740 rfl ?_
  refine lv_aload_n hx hb dL_law_741 rfl (lv_at hl 3 rfl) ?_
  obtain ⟨⟨r2, S1⟩, hf, hj⟩ := sj_samples Sm hJ
  have hJ1 : JJ S1 := hj
  refine y_mi (As := []) (rest := []) E G hA hX.2.2.2.2 hml (tr_samples l D cI cJ cZ am Sm  hf) (cwV 0 hts (glM (L := [Cond.methodLink RL 255 yX12_samples, Cond.instanceMethod yX12_samples, Cond.selects RX12 yX12_samples yX12_samples, Cond.initialized RX12]) (gl_in [(9, 108), (9, 109), (9, 110), (1, 14)] (by decide +kernel) (by decide +kernel)) ⟨(t_of [Cond.code yX12_samples cX12_samples 1 (some .int)] [(9, 111)] (by decide +kernel) _ List.mem_cons_self), List.all_eq_true.mp (by decide +kernel : [Cond.code yX12_samples cX12_samples 1 (some .int)].all goodWord = true) _ List.mem_cons_self⟩) rfl rfl rfl (by decide +kernel) ⟨Nat.le_of_ble_eq_true rfl, Nat.le_of_ble_eq_true rfl⟩) rfl hl.1 rfl (lv_room (Nat.le_of_ble_eq_true rfl)) dL_law_742 ⟨by show _ ≤ 601024; omega, by show _ ≤ 7293034; omega⟩ (fun H locs G => ?_)
  refine lv_pop hx hb dL_law_745 rfl ?_
  refine lv_goto (tgt := 2439) hx hb dL_law_746 (by decide) ?_
  refine W.widen (k := 19 + T1.1 + (j + 1)) (n := 38467 + sg T1 + 6 * (j + 1)) (by omega) (by omega) ?_
  exact kk ad f g H locs ls hg hf rfl hV1 hrc1 hJ1 G hl
end
section
/-! 17c.arm2.lean.txt -/
theorem dL_law_749 : decode cL_law 749 = .ok (.aload_n 1, 1) := de_43 (lb_46 (j := 13) (b := 43) rfl)
theorem dL_law_750 : decode cL_law 750 = .ok (.aload_n 0, 1) := de_42 (lb_46 (j := 14) (b := 42) rfl)
theorem dL_law_751 : decode cL_law 751 = .ok (.iload 5, 2) := de_21 (lb_46 (j := 15) (b := 21) rfl) (lb_47 (j := 0) (b := 5) rfl) rfl
theorem dL_law_753 : decode cL_law 753 = .ok (.iconst 1, 1) := de_4 (lb_47 (j := 1) (b := 4) rfl)
theorem dL_law_754 : decode cL_law 754 = .ok (.iadd, 1) := de_96 (lb_47 (j := 2) (b := 96) rfl)
theorem dL_law_755 : decode cL_law 755 = .ok (.iaload, 1) := de_46 (lb_47 (j := 3) (b := 46) rfl)
theorem dL_law_756 : decode cL_law 756 = .ok (.aload_n 0, 1) := de_42 (lb_47 (j := 4) (b := 42) rfl)
theorem dL_law_757 : decode cL_law 757 = .ok (.iload 5, 2) := de_21 (lb_47 (j := 5) (b := 21) rfl) (lb_47 (j := 6) (b := 5) rfl) rfl
theorem dL_law_759 : decode cL_law 759 = .ok (.iconst 2, 1) := de_5 (lb_47 (j := 7) (b := 5) rfl)
theorem dL_law_760 : decode cL_law 760 = .ok (.iadd, 1) := de_96 (lb_47 (j := 8) (b := 96) rfl)
theorem dL_law_761 : decode cL_law 761 = .ok (.iaload, 1) := de_46 (lb_47 (j := 9) (b := 46) rfl)
theorem dL_law_762 : decode cL_law 762 = .ok (.aload_n 3, 1) := de_45 (lb_47 (j := 10) (b := 45) rfl)
theorem dL_law_763 : decode cL_law 763 = .ok (.invokestatic 256, 3) := de_184 (lb_47 (j := 11) (b := 184) rfl) (lb_47 (j := 12) (b := 1) rfl) (lb_47 (j := 13) (b := 0) rfl) rfl
theorem dL_law_766 : decode cL_law 766 = .ok (.istore 6, 2) := de_54 (lb_47 (j := 14) (b := 54) rfl) (lb_47 (j := 15) (b := 6) rfl) rfl
theorem dL_law_768 : decode cL_law 768 = .ok (.aload_n 2, 1) := de_44 (lb_48 (j := 0) (b := 44) rfl)
theorem dL_law_769 : decode cL_law 769 = .ok (.aload_n 0, 1) := de_42 (lb_48 (j := 1) (b := 42) rfl)
theorem dL_law_770 : decode cL_law 770 = .ok (.iload 5, 2) := de_21 (lb_48 (j := 2) (b := 21) rfl) (lb_48 (j := 3) (b := 5) rfl) rfl
theorem dL_law_772 : decode cL_law 772 = .ok (.iconst 1, 1) := de_4 (lb_48 (j := 4) (b := 4) rfl)
theorem dL_law_773 : decode cL_law 773 = .ok (.iadd, 1) := de_96 (lb_48 (j := 5) (b := 96) rfl)
theorem dL_law_774 : decode cL_law 774 = .ok (.iaload, 1) := de_46 (lb_48 (j := 6) (b := 46) rfl)
theorem dL_law_775 : decode cL_law 775 = .ok (.aload_n 0, 1) := de_42 (lb_48 (j := 7) (b := 42) rfl)
theorem dL_law_776 : decode cL_law 776 = .ok (.iload 5, 2) := de_21 (lb_48 (j := 8) (b := 21) rfl) (lb_48 (j := 9) (b := 5) rfl) rfl
theorem dL_law_778 : decode cL_law 778 = .ok (.iconst 2, 1) := de_5 (lb_48 (j := 10) (b := 5) rfl)
theorem dL_law_779 : decode cL_law 779 = .ok (.iadd, 1) := de_96 (lb_48 (j := 11) (b := 96) rfl)
theorem dL_law_780 : decode cL_law 780 = .ok (.iaload, 1) := de_46 (lb_48 (j := 12) (b := 46) rfl)
theorem dL_law_781 : decode cL_law 781 = .ok (.invokevirtual 258, 3) := de_182 (lb_48 (j := 13) (b := 182) rfl) (lb_48 (j := 14) (b := 1) rfl) (lb_48 (j := 15) (b := 2) rfl) rfl
theorem dL_law_784 : decode cL_law 784 = .ok (.istore 7, 2) := de_54 (lb_49 (j := 0) (b := 54) rfl) (lb_49 (j := 1) (b := 7) rfl) rfl
theorem dL_law_786 : decode cL_law 786 = .ok (.goto 1653, 3) := de_167 (lb_49 (j := 2) (b := 167) rfl) (lb_49 (j := 3) (b := 6) rfl) (lb_49 (j := 4) (b := 117) rfl) (by decide +kernel)
theorem dL_law_789 : decode cL_law 789 = .ok (.aload_n 1, 1) := de_43 (lb_49 (j := 5) (b := 43) rfl)
theorem dL_law_790 : decode cL_law 790 = .ok (.aload_n 0, 1) := de_42 (lb_49 (j := 6) (b := 42) rfl)
theorem dL_law_791 : decode cL_law 791 = .ok (.iload 5, 2) := de_21 (lb_49 (j := 7) (b := 21) rfl) (lb_49 (j := 8) (b := 5) rfl) rfl
theorem dL_law_793 : decode cL_law 793 = .ok (.iconst 1, 1) := de_4 (lb_49 (j := 9) (b := 4) rfl)
theorem dL_law_794 : decode cL_law 794 = .ok (.iadd, 1) := de_96 (lb_49 (j := 10) (b := 96) rfl)
theorem dL_law_795 : decode cL_law 795 = .ok (.iaload, 1) := de_46 (lb_49 (j := 11) (b := 46) rfl)
theorem dL_law_796 : decode cL_law 796 = .ok (.aload_n 0, 1) := de_42 (lb_49 (j := 12) (b := 42) rfl)
theorem dL_law_797 : decode cL_law 797 = .ok (.iload 5, 2) := de_21 (lb_49 (j := 13) (b := 21) rfl) (lb_49 (j := 14) (b := 5) rfl) rfl
theorem dL_law_799 : decode cL_law 799 = .ok (.iconst 2, 1) := de_5 (lb_49 (j := 15) (b := 5) rfl)
theorem dL_law_800 : decode cL_law 800 = .ok (.iadd, 1) := de_96 (lb_50 (j := 0) (b := 96) rfl)
theorem dL_law_801 : decode cL_law 801 = .ok (.iaload, 1) := de_46 (lb_50 (j := 1) (b := 46) rfl)
theorem dL_law_802 : decode cL_law 802 = .ok (.aload_n 0, 1) := de_42 (lb_50 (j := 2) (b := 42) rfl)
theorem dL_law_803 : decode cL_law 803 = .ok (.iload 5, 2) := de_21 (lb_50 (j := 3) (b := 21) rfl) (lb_50 (j := 4) (b := 5) rfl) rfl
theorem dL_law_805 : decode cL_law 805 = .ok (.iconst 3, 1) := de_6 (lb_50 (j := 5) (b := 6) rfl)
theorem dL_law_806 : decode cL_law 806 = .ok (.iadd, 1) := de_96 (lb_50 (j := 6) (b := 96) rfl)
theorem dL_law_807 : decode cL_law 807 = .ok (.iaload, 1) := de_46 (lb_50 (j := 7) (b := 46) rfl)
theorem dL_law_808 : decode cL_law 808 = .ok (.aload_n 3, 1) := de_45 (lb_50 (j := 8) (b := 45) rfl)
theorem dL_law_809 : decode cL_law 809 = .ok (.invokestatic 259, 3) := de_184 (lb_50 (j := 9) (b := 184) rfl) (lb_50 (j := 10) (b := 1) rfl) (lb_50 (j := 11) (b := 3) rfl) rfl
theorem dL_law_812 : decode cL_law 812 = .ok (.istore 6, 2) := de_54 (lb_50 (j := 12) (b := 54) rfl) (lb_50 (j := 13) (b := 6) rfl) rfl
theorem dL_law_814 : decode cL_law 814 = .ok (.aload_n 2, 1) := de_44 (lb_50 (j := 14) (b := 44) rfl)
theorem dL_law_815 : decode cL_law 815 = .ok (.aload_n 0, 1) := de_42 (lb_50 (j := 15) (b := 42) rfl)
theorem dL_law_816 : decode cL_law 816 = .ok (.iload 5, 2) := de_21 (lb_51 (j := 0) (b := 21) rfl) (lb_51 (j := 1) (b := 5) rfl) rfl
theorem dL_law_818 : decode cL_law 818 = .ok (.iconst 1, 1) := de_4 (lb_51 (j := 2) (b := 4) rfl)
theorem dL_law_819 : decode cL_law 819 = .ok (.iadd, 1) := de_96 (lb_51 (j := 3) (b := 96) rfl)
theorem dL_law_820 : decode cL_law 820 = .ok (.iaload, 1) := de_46 (lb_51 (j := 4) (b := 46) rfl)
theorem dL_law_821 : decode cL_law 821 = .ok (.aload_n 0, 1) := de_42 (lb_51 (j := 5) (b := 42) rfl)
theorem dL_law_822 : decode cL_law 822 = .ok (.iload 5, 2) := de_21 (lb_51 (j := 6) (b := 21) rfl) (lb_51 (j := 7) (b := 5) rfl) rfl
theorem dL_law_824 : decode cL_law 824 = .ok (.iconst 2, 1) := de_5 (lb_51 (j := 8) (b := 5) rfl)
theorem dL_law_825 : decode cL_law 825 = .ok (.iadd, 1) := de_96 (lb_51 (j := 9) (b := 96) rfl)
theorem dL_law_826 : decode cL_law 826 = .ok (.iaload, 1) := de_46 (lb_51 (j := 10) (b := 46) rfl)
theorem dL_law_827 : decode cL_law 827 = .ok (.aload_n 0, 1) := de_42 (lb_51 (j := 11) (b := 42) rfl)
theorem dL_law_828 : decode cL_law 828 = .ok (.iload 5, 2) := de_21 (lb_51 (j := 12) (b := 21) rfl) (lb_51 (j := 13) (b := 5) rfl) rfl
theorem dL_law_830 : decode cL_law 830 = .ok (.iconst 3, 1) := de_6 (lb_51 (j := 14) (b := 6) rfl)
theorem dL_law_831 : decode cL_law 831 = .ok (.iadd, 1) := de_96 (lb_51 (j := 15) (b := 96) rfl)
theorem dL_law_832 : decode cL_law 832 = .ok (.iaload, 1) := de_46 (lb_52 (j := 0) (b := 46) rfl)
theorem dL_law_833 : decode cL_law 833 = .ok (.invokevirtual 261, 3) := de_182 (lb_52 (j := 1) (b := 182) rfl) (lb_52 (j := 2) (b := 1) rfl) (lb_52 (j := 3) (b := 5) rfl) rfl
theorem dL_law_836 : decode cL_law 836 = .ok (.istore 7, 2) := de_54 (lb_52 (j := 4) (b := 54) rfl) (lb_52 (j := 5) (b := 7) rfl) rfl
theorem dL_law_838 : decode cL_law 838 = .ok (.goto 1601, 3) := de_167 (lb_52 (j := 6) (b := 167) rfl) (lb_52 (j := 7) (b := 6) rfl) (lb_52 (j := 8) (b := 65) rfl) (by decide +kernel)
theorem dL_law_841 : decode cL_law 841 = .ok (.aload_n 1, 1) := de_43 (lb_52 (j := 9) (b := 43) rfl)
theorem dL_law_842 : decode cL_law 842 = .ok (.aload_n 0, 1) := de_42 (lb_52 (j := 10) (b := 42) rfl)
theorem dL_law_843 : decode cL_law 843 = .ok (.iload 5, 2) := de_21 (lb_52 (j := 11) (b := 21) rfl) (lb_52 (j := 12) (b := 5) rfl) rfl
theorem dL_law_845 : decode cL_law 845 = .ok (.iconst 1, 1) := de_4 (lb_52 (j := 13) (b := 4) rfl)
theorem dL_law_846 : decode cL_law 846 = .ok (.iadd, 1) := de_96 (lb_52 (j := 14) (b := 96) rfl)
theorem dL_law_847 : decode cL_law 847 = .ok (.iaload, 1) := de_46 (lb_52 (j := 15) (b := 46) rfl)
theorem dL_law_848 : decode cL_law 848 = .ok (.aload_n 3, 1) := de_45 (lb_53 (j := 0) (b := 45) rfl)
theorem dL_law_849 : decode cL_law 849 = .ok (.invokestatic 262, 3) := de_184 (lb_53 (j := 1) (b := 184) rfl) (lb_53 (j := 2) (b := 1) rfl) (lb_53 (j := 3) (b := 6) rfl) rfl
theorem dL_law_852 : decode cL_law 852 = .ok (.istore 6, 2) := de_54 (lb_53 (j := 4) (b := 54) rfl) (lb_53 (j := 5) (b := 6) rfl) rfl
theorem dL_law_854 : decode cL_law 854 = .ok (.aload_n 2, 1) := de_44 (lb_53 (j := 6) (b := 44) rfl)
theorem dL_law_855 : decode cL_law 855 = .ok (.aload_n 0, 1) := de_42 (lb_53 (j := 7) (b := 42) rfl)
theorem dL_law_856 : decode cL_law 856 = .ok (.iload 5, 2) := de_21 (lb_53 (j := 8) (b := 21) rfl) (lb_53 (j := 9) (b := 5) rfl) rfl
theorem dL_law_858 : decode cL_law 858 = .ok (.iconst 1, 1) := de_4 (lb_53 (j := 10) (b := 4) rfl)
theorem dL_law_859 : decode cL_law 859 = .ok (.iadd, 1) := de_96 (lb_53 (j := 11) (b := 96) rfl)
theorem dL_law_860 : decode cL_law 860 = .ok (.iaload, 1) := de_46 (lb_53 (j := 12) (b := 46) rfl)
theorem dL_law_861 : decode cL_law 861 = .ok (.invokevirtual 264, 3) := de_182 (lb_53 (j := 13) (b := 182) rfl) (lb_53 (j := 14) (b := 1) rfl) (lb_53 (j := 15) (b := 8) rfl) rfl
theorem dL_law_864 : decode cL_law 864 = .ok (.istore 7, 2) := de_54 (lb_54 (j := 0) (b := 54) rfl) (lb_54 (j := 1) (b := 7) rfl) rfl
theorem dL_law_866 : decode cL_law 866 = .ok (.goto 1573, 3) := de_167 (lb_54 (j := 2) (b := 167) rfl) (lb_54 (j := 3) (b := 6) rfl) (lb_54 (j := 4) (b := 37) rfl) (by decide +kernel)
theorem dL_law_869 : decode cL_law 869 = .ok (.aload_n 1, 1) := de_43 (lb_54 (j := 5) (b := 43) rfl)
theorem dL_law_870 : decode cL_law 870 = .ok (.aload_n 0, 1) := de_42 (lb_54 (j := 6) (b := 42) rfl)
theorem dL_law_871 : decode cL_law 871 = .ok (.iload 5, 2) := de_21 (lb_54 (j := 7) (b := 21) rfl) (lb_54 (j := 8) (b := 5) rfl) rfl
theorem dL_law_873 : decode cL_law 873 = .ok (.iconst 1, 1) := de_4 (lb_54 (j := 9) (b := 4) rfl)
theorem dL_law_874 : decode cL_law 874 = .ok (.iadd, 1) := de_96 (lb_54 (j := 10) (b := 96) rfl)
theorem dL_law_875 : decode cL_law 875 = .ok (.iaload, 1) := de_46 (lb_54 (j := 11) (b := 46) rfl)
theorem dL_law_876 : decode cL_law 876 = .ok (.aload_n 3, 1) := de_45 (lb_54 (j := 12) (b := 45) rfl)
theorem dL_law_877 : decode cL_law 877 = .ok (.invokestatic 265, 3) := de_184 (lb_54 (j := 13) (b := 184) rfl) (lb_54 (j := 14) (b := 1) rfl) (lb_54 (j := 15) (b := 9) rfl) rfl
theorem dL_law_880 : decode cL_law 880 = .ok (.istore 6, 2) := de_54 (lb_55 (j := 0) (b := 54) rfl) (lb_55 (j := 1) (b := 6) rfl) rfl
theorem dL_law_882 : decode cL_law 882 = .ok (.aload_n 2, 1) := de_44 (lb_55 (j := 2) (b := 44) rfl)
theorem dL_law_883 : decode cL_law 883 = .ok (.aload_n 0, 1) := de_42 (lb_55 (j := 3) (b := 42) rfl)
theorem dL_law_884 : decode cL_law 884 = .ok (.iload 5, 2) := de_21 (lb_55 (j := 4) (b := 21) rfl) (lb_55 (j := 5) (b := 5) rfl) rfl
theorem dL_law_886 : decode cL_law 886 = .ok (.iconst 1, 1) := de_4 (lb_55 (j := 6) (b := 4) rfl)
theorem dL_law_887 : decode cL_law 887 = .ok (.iadd, 1) := de_96 (lb_55 (j := 7) (b := 96) rfl)
theorem dL_law_888 : decode cL_law 888 = .ok (.iaload, 1) := de_46 (lb_55 (j := 8) (b := 46) rfl)
theorem dL_law_889 : decode cL_law 889 = .ok (.invokevirtual 267, 3) := de_182 (lb_55 (j := 9) (b := 182) rfl) (lb_55 (j := 10) (b := 1) rfl) (lb_55 (j := 11) (b := 11) rfl) rfl
theorem dL_law_892 : decode cL_law 892 = .ok (.istore 7, 2) := de_54 (lb_55 (j := 12) (b := 54) rfl) (lb_55 (j := 13) (b := 7) rfl) rfl
theorem dL_law_894 : decode cL_law 894 = .ok (.goto 1545, 3) := de_167 (lb_55 (j := 14) (b := 167) rfl) (lb_55 (j := 15) (b := 6) rfl) (lb_56 (j := 0) (b := 9) rfl) (by decide +kernel)
theorem dL_law_897 : decode cL_law 897 = .ok (.aload_n 1, 1) := de_43 (lb_56 (j := 1) (b := 43) rfl)
theorem dL_law_898 : decode cL_law 898 = .ok (.aload_n 0, 1) := de_42 (lb_56 (j := 2) (b := 42) rfl)
theorem dL_law_899 : decode cL_law 899 = .ok (.iload 5, 2) := de_21 (lb_56 (j := 3) (b := 21) rfl) (lb_56 (j := 4) (b := 5) rfl) rfl
theorem dL_law_901 : decode cL_law 901 = .ok (.iconst 1, 1) := de_4 (lb_56 (j := 5) (b := 4) rfl)
theorem dL_law_902 : decode cL_law 902 = .ok (.iadd, 1) := de_96 (lb_56 (j := 6) (b := 96) rfl)
theorem dL_law_903 : decode cL_law 903 = .ok (.iaload, 1) := de_46 (lb_56 (j := 7) (b := 46) rfl)
theorem dL_law_904 : decode cL_law 904 = .ok (.aload_n 0, 1) := de_42 (lb_56 (j := 8) (b := 42) rfl)
theorem dL_law_905 : decode cL_law 905 = .ok (.iload 5, 2) := de_21 (lb_56 (j := 9) (b := 21) rfl) (lb_56 (j := 10) (b := 5) rfl) rfl
theorem dL_law_907 : decode cL_law 907 = .ok (.iconst 2, 1) := de_5 (lb_56 (j := 11) (b := 5) rfl)
theorem dL_law_908 : decode cL_law 908 = .ok (.iadd, 1) := de_96 (lb_56 (j := 12) (b := 96) rfl)
theorem dL_law_909 : decode cL_law 909 = .ok (.iaload, 1) := de_46 (lb_56 (j := 13) (b := 46) rfl)
theorem dL_law_910 : decode cL_law 910 = .ok (.aload_n 3, 1) := de_45 (lb_56 (j := 14) (b := 45) rfl)
theorem dL_law_911 : decode cL_law 911 = .ok (.invokestatic 268, 3) := de_184 (lb_56 (j := 15) (b := 184) rfl) (lb_57 (j := 0) (b := 1) rfl) (lb_57 (j := 1) (b := 12) rfl) rfl
theorem dL_law_914 : decode cL_law 914 = .ok (.istore 6, 2) := de_54 (lb_57 (j := 2) (b := 54) rfl) (lb_57 (j := 3) (b := 6) rfl) rfl
theorem dL_law_916 : decode cL_law 916 = .ok (.aload_n 2, 1) := de_44 (lb_57 (j := 4) (b := 44) rfl)
theorem dL_law_917 : decode cL_law 917 = .ok (.aload_n 0, 1) := de_42 (lb_57 (j := 5) (b := 42) rfl)
theorem dL_law_918 : decode cL_law 918 = .ok (.iload 5, 2) := de_21 (lb_57 (j := 6) (b := 21) rfl) (lb_57 (j := 7) (b := 5) rfl) rfl
theorem dL_law_920 : decode cL_law 920 = .ok (.iconst 1, 1) := de_4 (lb_57 (j := 8) (b := 4) rfl)
theorem dL_law_921 : decode cL_law 921 = .ok (.iadd, 1) := de_96 (lb_57 (j := 9) (b := 96) rfl)
theorem dL_law_922 : decode cL_law 922 = .ok (.iaload, 1) := de_46 (lb_57 (j := 10) (b := 46) rfl)
theorem dL_law_923 : decode cL_law 923 = .ok (.aload_n 0, 1) := de_42 (lb_57 (j := 11) (b := 42) rfl)
theorem dL_law_924 : decode cL_law 924 = .ok (.iload 5, 2) := de_21 (lb_57 (j := 12) (b := 21) rfl) (lb_57 (j := 13) (b := 5) rfl) rfl
theorem dL_law_926 : decode cL_law 926 = .ok (.iconst 2, 1) := de_5 (lb_57 (j := 14) (b := 5) rfl)
theorem dL_law_927 : decode cL_law 927 = .ok (.iadd, 1) := de_96 (lb_57 (j := 15) (b := 96) rfl)
theorem dL_law_928 : decode cL_law 928 = .ok (.iaload, 1) := de_46 (lb_58 (j := 0) (b := 46) rfl)
theorem dL_law_929 : decode cL_law 929 = .ok (.invokevirtual 270, 3) := de_182 (lb_58 (j := 1) (b := 182) rfl) (lb_58 (j := 2) (b := 1) rfl) (lb_58 (j := 3) (b := 14) rfl) rfl
theorem dL_law_932 : decode cL_law 932 = .ok (.istore 7, 2) := de_54 (lb_58 (j := 4) (b := 54) rfl) (lb_58 (j := 5) (b := 7) rfl) rfl
theorem dL_law_934 : decode cL_law 934 = .ok (.goto 1505, 3) := de_167 (lb_58 (j := 6) (b := 167) rfl) (lb_58 (j := 7) (b := 5) rfl) (lb_58 (j := 8) (b := 225) rfl) (by decide +kernel)
theorem dL_law_937 : decode cL_law 937 = .ok (.aload_n 1, 1) := de_43 (lb_58 (j := 9) (b := 43) rfl)
theorem dL_law_938 : decode cL_law 938 = .ok (.aload_n 0, 1) := de_42 (lb_58 (j := 10) (b := 42) rfl)
theorem dL_law_939 : decode cL_law 939 = .ok (.iload 5, 2) := de_21 (lb_58 (j := 11) (b := 21) rfl) (lb_58 (j := 12) (b := 5) rfl) rfl
theorem dL_law_941 : decode cL_law 941 = .ok (.iconst 1, 1) := de_4 (lb_58 (j := 13) (b := 4) rfl)
theorem dL_law_942 : decode cL_law 942 = .ok (.iadd, 1) := de_96 (lb_58 (j := 14) (b := 96) rfl)
theorem dL_law_943 : decode cL_law 943 = .ok (.iaload, 1) := de_46 (lb_58 (j := 15) (b := 46) rfl)
theorem dL_law_944 : decode cL_law 944 = .ok (.aload_n 0, 1) := de_42 (lb_59 (j := 0) (b := 42) rfl)
theorem dL_law_945 : decode cL_law 945 = .ok (.iload 5, 2) := de_21 (lb_59 (j := 1) (b := 21) rfl) (lb_59 (j := 2) (b := 5) rfl) rfl
theorem dL_law_947 : decode cL_law 947 = .ok (.iconst 2, 1) := de_5 (lb_59 (j := 3) (b := 5) rfl)
theorem dL_law_948 : decode cL_law 948 = .ok (.iadd, 1) := de_96 (lb_59 (j := 4) (b := 96) rfl)
theorem dL_law_949 : decode cL_law 949 = .ok (.iaload, 1) := de_46 (lb_59 (j := 5) (b := 46) rfl)
theorem dL_law_950 : decode cL_law 950 = .ok (.aload_n 3, 1) := de_45 (lb_59 (j := 6) (b := 45) rfl)
theorem dL_law_951 : decode cL_law 951 = .ok (.invokestatic 271, 3) := de_184 (lb_59 (j := 7) (b := 184) rfl) (lb_59 (j := 8) (b := 1) rfl) (lb_59 (j := 9) (b := 15) rfl) rfl
theorem dL_law_954 : decode cL_law 954 = .ok (.istore 6, 2) := de_54 (lb_59 (j := 10) (b := 54) rfl) (lb_59 (j := 11) (b := 6) rfl) rfl
theorem dL_law_956 : decode cL_law 956 = .ok (.aload_n 2, 1) := de_44 (lb_59 (j := 12) (b := 44) rfl)
theorem dL_law_957 : decode cL_law 957 = .ok (.aload_n 0, 1) := de_42 (lb_59 (j := 13) (b := 42) rfl)
theorem dL_law_958 : decode cL_law 958 = .ok (.iload 5, 2) := de_21 (lb_59 (j := 14) (b := 21) rfl) (lb_59 (j := 15) (b := 5) rfl) rfl
theorem dL_law_960 : decode cL_law 960 = .ok (.iconst 1, 1) := de_4 (lb_60 (j := 0) (b := 4) rfl)
theorem dL_law_961 : decode cL_law 961 = .ok (.iadd, 1) := de_96 (lb_60 (j := 1) (b := 96) rfl)
theorem dL_law_962 : decode cL_law 962 = .ok (.iaload, 1) := de_46 (lb_60 (j := 2) (b := 46) rfl)
theorem dL_law_963 : decode cL_law 963 = .ok (.aload_n 0, 1) := de_42 (lb_60 (j := 3) (b := 42) rfl)
theorem dL_law_964 : decode cL_law 964 = .ok (.iload 5, 2) := de_21 (lb_60 (j := 4) (b := 21) rfl) (lb_60 (j := 5) (b := 5) rfl) rfl
theorem dL_law_966 : decode cL_law 966 = .ok (.iconst 2, 1) := de_5 (lb_60 (j := 6) (b := 5) rfl)
theorem dL_law_967 : decode cL_law 967 = .ok (.iadd, 1) := de_96 (lb_60 (j := 7) (b := 96) rfl)
theorem dL_law_968 : decode cL_law 968 = .ok (.iaload, 1) := de_46 (lb_60 (j := 8) (b := 46) rfl)
theorem dL_law_969 : decode cL_law 969 = .ok (.invokevirtual 273, 3) := de_182 (lb_60 (j := 9) (b := 182) rfl) (lb_60 (j := 10) (b := 1) rfl) (lb_60 (j := 11) (b := 17) rfl) rfl
theorem dL_law_972 : decode cL_law 972 = .ok (.istore 7, 2) := de_54 (lb_60 (j := 12) (b := 54) rfl) (lb_60 (j := 13) (b := 7) rfl) rfl
theorem dL_law_974 : decode cL_law 974 = .ok (.goto 1465, 3) := de_167 (lb_60 (j := 14) (b := 167) rfl) (lb_60 (j := 15) (b := 5) rfl) (lb_61 (j := 0) (b := 185) rfl) (by decide +kernel)
theorem dL_law_977 : decode cL_law 977 = .ok (.aload_n 1, 1) := de_43 (lb_61 (j := 1) (b := 43) rfl)
theorem dL_law_978 : decode cL_law 978 = .ok (.aload_n 0, 1) := de_42 (lb_61 (j := 2) (b := 42) rfl)
theorem dL_law_979 : decode cL_law 979 = .ok (.iload 5, 2) := de_21 (lb_61 (j := 3) (b := 21) rfl) (lb_61 (j := 4) (b := 5) rfl) rfl
theorem dL_law_981 : decode cL_law 981 = .ok (.iconst 1, 1) := de_4 (lb_61 (j := 5) (b := 4) rfl)
theorem dL_law_982 : decode cL_law 982 = .ok (.iadd, 1) := de_96 (lb_61 (j := 6) (b := 96) rfl)
theorem dL_law_983 : decode cL_law 983 = .ok (.iaload, 1) := de_46 (lb_61 (j := 7) (b := 46) rfl)
theorem dL_law_984 : decode cL_law 984 = .ok (.aload_n 3, 1) := de_45 (lb_61 (j := 8) (b := 45) rfl)
theorem dL_law_985 : decode cL_law 985 = .ok (.invokestatic 274, 3) := de_184 (lb_61 (j := 9) (b := 184) rfl) (lb_61 (j := 10) (b := 1) rfl) (lb_61 (j := 11) (b := 18) rfl) rfl
theorem dL_law_988 : decode cL_law 988 = .ok (.istore 6, 2) := de_54 (lb_61 (j := 12) (b := 54) rfl) (lb_61 (j := 13) (b := 6) rfl) rfl
theorem dL_law_990 : decode cL_law 990 = .ok (.aload_n 2, 1) := de_44 (lb_61 (j := 14) (b := 44) rfl)
theorem dL_law_991 : decode cL_law 991 = .ok (.aload_n 0, 1) := de_42 (lb_61 (j := 15) (b := 42) rfl)
theorem dL_law_992 : decode cL_law 992 = .ok (.iload 5, 2) := de_21 (lb_62 (j := 0) (b := 21) rfl) (lb_62 (j := 1) (b := 5) rfl) rfl
theorem dL_law_994 : decode cL_law 994 = .ok (.iconst 1, 1) := de_4 (lb_62 (j := 2) (b := 4) rfl)
theorem dL_law_995 : decode cL_law 995 = .ok (.iadd, 1) := de_96 (lb_62 (j := 3) (b := 96) rfl)
theorem dL_law_996 : decode cL_law 996 = .ok (.iaload, 1) := de_46 (lb_62 (j := 4) (b := 46) rfl)
theorem dL_law_997 : decode cL_law 997 = .ok (.invokevirtual 276, 3) := de_182 (lb_62 (j := 5) (b := 182) rfl) (lb_62 (j := 6) (b := 1) rfl) (lb_62 (j := 7) (b := 20) rfl) rfl
theorem dL_law_1000 : decode cL_law 1000 = .ok (.lstore 7, 2) := de_55 (lb_62 (j := 8) (b := 55) rfl) (lb_62 (j := 9) (b := 7) rfl) rfl
theorem dL_law_1002 : decode cL_law 1002 = .ok (.goto 1437, 3) := de_167 (lb_62 (j := 10) (b := 167) rfl) (lb_62 (j := 11) (b := 5) rfl) (lb_62 (j := 12) (b := 157) rfl) (by decide +kernel)
theorem dL_law_1005 : decode cL_law 1005 = .ok (.aload_n 1, 1) := de_43 (lb_62 (j := 13) (b := 43) rfl)
theorem dL_law_1006 : decode cL_law 1006 = .ok (.aload_n 0, 1) := de_42 (lb_62 (j := 14) (b := 42) rfl)
theorem dL_law_1007 : decode cL_law 1007 = .ok (.iload 5, 2) := de_21 (lb_62 (j := 15) (b := 21) rfl) (lb_63 (j := 0) (b := 5) rfl) rfl
theorem dL_law_1009 : decode cL_law 1009 = .ok (.iconst 1, 1) := de_4 (lb_63 (j := 1) (b := 4) rfl)
theorem dL_law_1010 : decode cL_law 1010 = .ok (.iadd, 1) := de_96 (lb_63 (j := 2) (b := 96) rfl)
theorem dL_law_1011 : decode cL_law 1011 = .ok (.iaload, 1) := de_46 (lb_63 (j := 3) (b := 46) rfl)
theorem dL_law_1012 : decode cL_law 1012 = .ok (.aload_n 0, 1) := de_42 (lb_63 (j := 4) (b := 42) rfl)
theorem dL_law_1013 : decode cL_law 1013 = .ok (.iload 5, 2) := de_21 (lb_63 (j := 5) (b := 21) rfl) (lb_63 (j := 6) (b := 5) rfl) rfl
theorem dL_law_1015 : decode cL_law 1015 = .ok (.iconst 2, 1) := de_5 (lb_63 (j := 7) (b := 5) rfl)
theorem dL_law_1016 : decode cL_law 1016 = .ok (.iadd, 1) := de_96 (lb_63 (j := 8) (b := 96) rfl)
theorem dL_law_1017 : decode cL_law 1017 = .ok (.iaload, 1) := de_46 (lb_63 (j := 9) (b := 46) rfl)
theorem dL_law_1018 : decode cL_law 1018 = .ok (.aload_n 3, 1) := de_45 (lb_63 (j := 10) (b := 45) rfl)
theorem dL_law_1019 : decode cL_law 1019 = .ok (.invokestatic 277, 3) := de_184 (lb_63 (j := 11) (b := 184) rfl) (lb_63 (j := 12) (b := 1) rfl) (lb_63 (j := 13) (b := 21) rfl) rfl
theorem dL_law_1022 : decode cL_law 1022 = .ok (.istore 6, 2) := de_54 (lb_63 (j := 14) (b := 54) rfl) (lb_63 (j := 15) (b := 6) rfl) rfl
theorem dL_law_1024 : decode cL_law 1024 = .ok (.aload_n 2, 1) := de_44 (lb_64 (j := 0) (b := 44) rfl)
theorem dL_law_1025 : decode cL_law 1025 = .ok (.aload_n 0, 1) := de_42 (lb_64 (j := 1) (b := 42) rfl)
theorem dL_law_1026 : decode cL_law 1026 = .ok (.iload 5, 2) := de_21 (lb_64 (j := 2) (b := 21) rfl) (lb_64 (j := 3) (b := 5) rfl) rfl
theorem dL_law_1028 : decode cL_law 1028 = .ok (.iconst 1, 1) := de_4 (lb_64 (j := 4) (b := 4) rfl)
theorem dL_law_1029 : decode cL_law 1029 = .ok (.iadd, 1) := de_96 (lb_64 (j := 5) (b := 96) rfl)
theorem dL_law_1030 : decode cL_law 1030 = .ok (.iaload, 1) := de_46 (lb_64 (j := 6) (b := 46) rfl)
theorem dL_law_1031 : decode cL_law 1031 = .ok (.aload_n 0, 1) := de_42 (lb_64 (j := 7) (b := 42) rfl)
theorem dL_law_1032 : decode cL_law 1032 = .ok (.iload 5, 2) := de_21 (lb_64 (j := 8) (b := 21) rfl) (lb_64 (j := 9) (b := 5) rfl) rfl
theorem dL_law_1034 : decode cL_law 1034 = .ok (.iconst 2, 1) := de_5 (lb_64 (j := 10) (b := 5) rfl)
theorem dL_law_1035 : decode cL_law 1035 = .ok (.iadd, 1) := de_96 (lb_64 (j := 11) (b := 96) rfl)
theorem dL_law_1036 : decode cL_law 1036 = .ok (.iaload, 1) := de_46 (lb_64 (j := 12) (b := 46) rfl)
theorem dL_law_1037 : decode cL_law 1037 = .ok (.invokevirtual 279, 3) := de_182 (lb_64 (j := 13) (b := 182) rfl) (lb_64 (j := 14) (b := 1) rfl) (lb_64 (j := 15) (b := 23) rfl) rfl
theorem dL_law_1040 : decode cL_law 1040 = .ok (.lstore 7, 2) := de_55 (lb_65 (j := 0) (b := 55) rfl) (lb_65 (j := 1) (b := 7) rfl) rfl
theorem dL_law_1042 : decode cL_law 1042 = .ok (.goto 1397, 3) := de_167 (lb_65 (j := 2) (b := 167) rfl) (lb_65 (j := 3) (b := 5) rfl) (lb_65 (j := 4) (b := 117) rfl) (by decide +kernel)
set_option maxHeartbeats 4000000 in
set_option maxRecDepth 100000 in
theorem y_a16 {p : Program} {e : Env} {s : State} {m : MethodId} {below : List Frame} {meth : Method} {c : Code} (l : Launch) (hst : l.stackTraces = false) {b L : Nat} {xs : Nat → Int32} (hx : p.tables.exec = Jvm.exec) (hb : c.code = code) (hml : c.maxLocals = 9) (hown : s.vm.findClass RL = some m.cls) (hts : ∀ w ∈ lw_tbl, w.before #[Value.ref b] s = true) (hX0 : va_X b L xs s s.heap) (hbl : b < s.heap.size) (hX : xT (fun q => s.heap.size ≤ q) s) (hN : nC s) (hTS : sAll s.heap.size s) {D : va_G} {cI cJ cZ cMic cSrc cSt cAI cAJ cD : ClassId} (hK : va_K D vwCl (CT cI cJ cZ cMic cSrc cSt cAI cAJ ++ [(cD, .double)]) s) {Q : State → Prop} {i j : Nat} (hi : i + 6 ≤ L) (hL : L ≤ 3072) (hj : j < 512) {aj ae : Nat} {ad am : Nat → Nat} {T : AT} {Sm : MS} {f : Nat → Int64} {g : Nat → UInt64} {ls : Array Slot} {H : Heap} {locs : List Loc} (hV : IV aR0 1586 aK1 aK2 T) (hrc : RC T) (hJ : JJ Sm) (G : gL cI cJ cZ cMic cSrc cSt cAI cAJ D ad (fun q => s.heap.size ≤ q) s.heap H locs T (oJ aj cJ f :: oD ae cD g :: MW cI cJ cZ am Sm)) (hl : lv_has ls 9 [(5, .int (nI i)), (4, .ref ae), (3, .ref aj), (2, .ref (am 0)), (1, .ref (ad 0)), (0, .ref b)]) (kk : ∀ {k1 : Nat} {r1 : Int32} {T1 : AT} {r2 : Int32} {S1 : MS} (ad2 : Nat → Nat) (f1 : Nat → Int64) (g1 : Nat → UInt64) (H1 : Heap) (locs1 : List Loc) (ls1 : Array Slot), g_X11_delay T 0 (xs (i + 1)) (xs (i + 2)) = some (k1, r1, T1) → fr_delay Sm (xs (i + 1)) (xs (i + 2)) = some (r2, S1) → ad2 0 = ad 0 → IV aR0 1586 aK1 aK2 T1 → RC T1 → JJ S1 → gL cI cJ cZ cMic cSrc cSt cAI cAJ D ad2 (fun q => s.heap.size ≤ q) s.heap H1 locs1 T1 (oJ aj cJ f1 :: oD ae cD g1 :: MW cI cJ cZ am S1) → lv_has ls1 9 [(5, .int (nI i)), (4, .ref ae), (3, .ref aj), (2, .ref (am 0)), (1, .ref (ad2 0)), (0, .ref b)] → W p l e room_1 s m #[Value.ref b] below meth c H1 locs1 (19 + T1.1 + (j + 1)) (38467 + sg T1 + 6 * (j + 1)) Q (F0 m 2439 ls1 [])) : W p l e room_1 s m #[Value.ref b] below meth c H locs (19 + T.1 + j) (38467 + sg T + 6 * j) Q (F0 m 749 ls []) := by
  have E : cE p c cL_law s m #[Value.ref b] lw_tbl D RL (CT cI cJ cZ cMic cSrc cSt cAI cAJ ++ [(cD, .double)]) := ⟨hx, hb, hts, hown, hK⟩
  have hA : ∀ q : Nat, s.heap.size ≤ q → s.heap.size ≤ q := fun _ h => h
  have h0T : 0 < T.1 := Nat.lt_of_lt_of_le (by decide) hV.1.2.2
  have h0s : T.2.1 0 = (11, 0) := hV.2.1 0 ⟨by decide, by decide +kernel, by decide +kernel⟩
  refine lv_aload_n hx hb dL_law_749 rfl (lv_at hl 4 rfl) ?_
  refine lv_aload_n hx hb dL_law_750 rfl (lv_at hl 5 rfl) ?_
  refine lv_iload hx hb dL_law_751 (lv_at hl 0 rfl) ?_
  refine lv_iconst (v := 1) hx hb dL_law_753 (by decide) ?_
  refine lv_iadd hx hb dL_law_754 ?_
  refine lv_to (y := nI (i + 1)) (nI_add i 1) ?_
  refine va_sld hx hb hX0 hbl (Nat.not_le.mpr hbl) G.2.2 (i := nI (i + 1)) (vp_in_nI (n := i + 1) (N := L) (by omega) (by omega)) dL_law_755 ?_
  refine lv_to (y := xs (i + 1)) (congrArg xs (nI_clamp (by omega))) ?_
  refine lv_aload_n hx hb dL_law_756 rfl (lv_at hl 5 rfl) ?_
  refine lv_iload hx hb dL_law_757 (lv_at hl 0 rfl) ?_
  refine lv_iconst (v := 2) hx hb dL_law_759 (by decide) ?_
  refine lv_iadd hx hb dL_law_760 ?_
  refine lv_to (y := nI (i + 2)) (nI_add i 2) ?_
  refine va_sld hx hb hX0 hbl (Nat.not_le.mpr hbl) G.2.2 (i := nI (i + 2)) (vp_in_nI (n := i + 2) (N := L) (by omega) (by omega)) dL_law_761 ?_
  refine lv_to (y := xs (i + 2)) (congrArg xs (nI_clamp (by omega))) ?_
  refine lv_aload_n hx hb dL_law_762 rfl (lv_at hl 2 rfl) ?_
  obtain ⟨⟨k1, r1, T1⟩, hg, hc⟩ := cs_X11_delay T 0 (xs (i + 1)) (xs (i + 2)) hV (by decide +kernel)
  have hV1 : IV aR0 1586 aK1 aK2 T1 := by rw [show T1 = T from hc.1]; exact hV
  have hg1 := (gl_sp (s_X11_delay hg))
  have hg2 := sg_le hg1
  have hg3 := hg1.1
  have hk := hV1.2.2.2.2.2.2
  have hrc1 := hg1.2.2 hrc
  have hr0 := a_room
  refine l_v (h0 := s.heap.size) (As := [.ref (ad 0), .int (xs (i + 1)), .int (xs (i + 2)), .ref aj]) (rest := []) E G hA hX hN (fun _ h => h) hTS hml (v_delay l hst D s.heap.size ad T 0 (xs (i + 1)) (xs (i + 2)) aj f hg hrc h0T h0s) (vx_cwSW 4 hts (glA (L := [Cond.methodLink RL 256 yL_delay, Cond.static yL_delay, Cond.initialized RL]) (gl_in [(5, 106), (5, 107), (1, 0)] (by decide +kernel) (by decide +kernel)) ⟨(t_of [Cond.codeWith yL_delay cL_delay 5 (some .int) [(0, 10, 13, 21), (0, 10, 17, 13)]] [(5, 108)] (by decide +kernel) _ List.mem_cons_self), List.all_eq_true.mp (by decide +kernel : [Cond.codeWith yL_delay cL_delay 5 (some .int) [(0, 10, 13, 21), (0, 10, 17, 13)]].all goodWord = true) _ List.mem_cons_self⟩) rfl rfl rfl (by decide +kernel) ⟨Nat.le_of_ble_eq_true rfl, Nat.le_of_ble_eq_true rfl⟩) rfl hl.1 rfl (lv_room (Nat.le_of_ble_eq_true rfl)) dL_law_763 ⟨by show _ ≤ 601024; omega, by show _ ≤ 7293034; omega⟩ ?_
  intro ad2 H locs had G
  rw [← had 0 h0T] at hl
  refine lv_istore (lv' := [(6, .int (vck 1 2 0 k1)), (5, .int (nI i)), (4, .ref ae), (3, .ref aj), (2, .ref (am 0)), (1, .ref (ad2 0)), (0, .ref b)]) hx hb dL_law_766 hl (by decide) rfl (fun ls hl => ?_)
  refine lv_aload_n hx hb dL_law_768 rfl (lv_at hl 4 rfl) ?_
  refine lv_aload_n hx hb dL_law_769 rfl (lv_at hl 6 rfl) ?_
  refine lv_iload hx hb dL_law_770 (lv_at hl 1 rfl) ?_
  refine lv_iconst (v := 1) hx hb dL_law_772 (by decide) ?_
  refine lv_iadd hx hb dL_law_773 ?_
  refine lv_to (y := nI (i + 1)) (nI_add i 1) ?_
  refine va_sld hx hb hX0 hbl (Nat.not_le.mpr hbl) G.2.2 (i := nI (i + 1)) (vp_in_nI (n := i + 1) (N := L) (by omega) (by omega)) dL_law_774 ?_
  refine lv_to (y := xs (i + 1)) (congrArg xs (nI_clamp (by omega))) ?_
  refine lv_aload_n hx hb dL_law_775 rfl (lv_at hl 6 rfl) ?_
  refine lv_iload hx hb dL_law_776 (lv_at hl 1 rfl) ?_
  refine lv_iconst (v := 2) hx hb dL_law_778 (by decide) ?_
  refine lv_iadd hx hb dL_law_779 ?_
  refine lv_to (y := nI (i + 2)) (nI_add i 2) ?_
  refine va_sld hx hb hX0 hbl (Nat.not_le.mpr hbl) G.2.2 (i := nI (i + 2)) (vp_in_nI (n := i + 2) (N := L) (by omega) (by omega)) dL_law_780 ?_
  refine lv_to (y := xs (i + 2)) (congrArg xs (nI_clamp (by omega))) ?_
  obtain ⟨⟨r2, S1⟩, hf, hj⟩ := sj_delay Sm (xs (i + 1)) (xs (i + 2)) hJ
  have hJ1 : JJ S1 := hj
  refine y_mi (As := [.int (xs (i + 1)), .int (xs (i + 2))]) (rest := []) E G hA hX.2.2.2.2 hml (tr_delay l D cI cJ cZ am Sm (xs (i + 1)) (xs (i + 2)) hf) (cwV 2 hts (glM (L := [Cond.methodLink RL 258 yX12_delay, Cond.instanceMethod yX12_delay, Cond.selects RX12 yX12_delay yX12_delay, Cond.initialized RX12]) (gl_in [(9, 112), (9, 113), (9, 114), (1, 14)] (by decide +kernel) (by decide +kernel)) ⟨(t_of [Cond.code yX12_delay cX12_delay 3 (some .int)] [(9, 115)] (by decide +kernel) _ List.mem_cons_self), List.all_eq_true.mp (by decide +kernel : [Cond.code yX12_delay cX12_delay 3 (some .int)].all goodWord = true) _ List.mem_cons_self⟩) rfl rfl rfl (by decide +kernel) ⟨Nat.le_of_ble_eq_true rfl, Nat.le_of_ble_eq_true rfl⟩) rfl hl.1 rfl (lv_room (Nat.le_of_ble_eq_true rfl)) dL_law_781 ⟨by show _ ≤ 601024; omega, by show _ ≤ 7293034; omega⟩ (fun H locs G => ?_)
  refine lv_istore (lv' := [(7, .int r2), (6, .int (vck 1 2 0 k1)), (5, .int (nI i)), (4, .ref ae), (3, .ref aj), (2, .ref (am 0)), (1, .ref (ad2 0)), (0, .ref b)]) hx hb dL_law_784 hl (by decide) rfl (fun ls hl => ?_)
  refine lv_goto (tgt := 2439) hx hb dL_law_786 (by decide) ?_
  have hl := lv_sub hl [2, 3, 4, 5, 6, 7] rfl
  refine W.widen (k := 19 + T1.1 + (j + 1)) (n := 38467 + sg T1 + 6 * (j + 1)) (by omega) (by omega) ?_
  exact kk ad2 (vfJ k1 f r1.toInt64) g H locs ls hg hf (had 0 h0T) hV1 hrc1 hJ1 G hl
set_option maxHeartbeats 4000000 in
set_option maxRecDepth 100000 in
theorem y_a17 {p : Program} {e : Env} {s : State} {m : MethodId} {below : List Frame} {meth : Method} {c : Code} (l : Launch) (hst : l.stackTraces = false) {b L : Nat} {xs : Nat → Int32} (hx : p.tables.exec = Jvm.exec) (hb : c.code = code) (hml : c.maxLocals = 9) (hown : s.vm.findClass RL = some m.cls) (hts : ∀ w ∈ lw_tbl, w.before #[Value.ref b] s = true) (hX0 : va_X b L xs s s.heap) (hbl : b < s.heap.size) (hX : xT (fun q => s.heap.size ≤ q) s) (hN : nC s) (hTS : sAll s.heap.size s) {D : va_G} {cI cJ cZ cMic cSrc cSt cAI cAJ cD : ClassId} (hK : va_K D vwCl (CT cI cJ cZ cMic cSrc cSt cAI cAJ ++ [(cD, .double)]) s) {Q : State → Prop} {i j : Nat} (hi : i + 6 ≤ L) (hL : L ≤ 3072) (hj : j < 512) {aj ae : Nat} {ad am : Nat → Nat} {T : AT} {Sm : MS} {f : Nat → Int64} {g : Nat → UInt64} {ls : Array Slot} {H : Heap} {locs : List Loc} (hV : IV aR0 1586 aK1 aK2 T) (hrc : RC T) (hJ : JJ Sm) (G : gL cI cJ cZ cMic cSrc cSt cAI cAJ D ad (fun q => s.heap.size ≤ q) s.heap H locs T (oJ aj cJ f :: oD ae cD g :: MW cI cJ cZ am Sm)) (hl : lv_has ls 9 [(5, .int (nI i)), (4, .ref ae), (3, .ref aj), (2, .ref (am 0)), (1, .ref (ad 0)), (0, .ref b)]) (kk : ∀ {k1 : Nat} {r1 : Int32} {T1 : AT} {r2 : Int32} {S1 : MS} (ad2 : Nat → Nat) (f1 : Nat → Int64) (g1 : Nat → UInt64) (H1 : Heap) (locs1 : List Loc) (ls1 : Array Slot), g_X11_delayTo T 0 (xs (i + 1)) (xs (i + 2)) (xs (i + 3)) = some (k1, r1, T1) → fr_delayTo Sm (xs (i + 1)) (xs (i + 2)) (xs (i + 3)) = some (r2, S1) → ad2 0 = ad 0 → IV aR0 1586 aK1 aK2 T1 → RC T1 → JJ S1 → gL cI cJ cZ cMic cSrc cSt cAI cAJ D ad2 (fun q => s.heap.size ≤ q) s.heap H1 locs1 T1 (oJ aj cJ f1 :: oD ae cD g1 :: MW cI cJ cZ am S1) → lv_has ls1 9 [(5, .int (nI i)), (4, .ref ae), (3, .ref aj), (2, .ref (am 0)), (1, .ref (ad2 0)), (0, .ref b)] → W p l e room_1 s m #[Value.ref b] below meth c H1 locs1 (19 + T1.1 + (j + 1)) (38467 + sg T1 + 6 * (j + 1)) Q (F0 m 2439 ls1 [])) : W p l e room_1 s m #[Value.ref b] below meth c H locs (19 + T.1 + j) (38467 + sg T + 6 * j) Q (F0 m 789 ls []) := by
  have E : cE p c cL_law s m #[Value.ref b] lw_tbl D RL (CT cI cJ cZ cMic cSrc cSt cAI cAJ ++ [(cD, .double)]) := ⟨hx, hb, hts, hown, hK⟩
  have hA : ∀ q : Nat, s.heap.size ≤ q → s.heap.size ≤ q := fun _ h => h
  have h0T : 0 < T.1 := Nat.lt_of_lt_of_le (by decide) hV.1.2.2
  have h0s : T.2.1 0 = (11, 0) := hV.2.1 0 ⟨by decide, by decide +kernel, by decide +kernel⟩
  refine lv_aload_n hx hb dL_law_789 rfl (lv_at hl 4 rfl) ?_
  refine lv_aload_n hx hb dL_law_790 rfl (lv_at hl 5 rfl) ?_
  refine lv_iload hx hb dL_law_791 (lv_at hl 0 rfl) ?_
  refine lv_iconst (v := 1) hx hb dL_law_793 (by decide) ?_
  refine lv_iadd hx hb dL_law_794 ?_
  refine lv_to (y := nI (i + 1)) (nI_add i 1) ?_
  refine va_sld hx hb hX0 hbl (Nat.not_le.mpr hbl) G.2.2 (i := nI (i + 1)) (vp_in_nI (n := i + 1) (N := L) (by omega) (by omega)) dL_law_795 ?_
  refine lv_to (y := xs (i + 1)) (congrArg xs (nI_clamp (by omega))) ?_
  refine lv_aload_n hx hb dL_law_796 rfl (lv_at hl 5 rfl) ?_
  refine lv_iload hx hb dL_law_797 (lv_at hl 0 rfl) ?_
  refine lv_iconst (v := 2) hx hb dL_law_799 (by decide) ?_
  refine lv_iadd hx hb dL_law_800 ?_
  refine lv_to (y := nI (i + 2)) (nI_add i 2) ?_
  refine va_sld hx hb hX0 hbl (Nat.not_le.mpr hbl) G.2.2 (i := nI (i + 2)) (vp_in_nI (n := i + 2) (N := L) (by omega) (by omega)) dL_law_801 ?_
  refine lv_to (y := xs (i + 2)) (congrArg xs (nI_clamp (by omega))) ?_
  refine lv_aload_n hx hb dL_law_802 rfl (lv_at hl 5 rfl) ?_
  refine lv_iload hx hb dL_law_803 (lv_at hl 0 rfl) ?_
  refine lv_iconst (v := 3) hx hb dL_law_805 (by decide) ?_
  refine lv_iadd hx hb dL_law_806 ?_
  refine lv_to (y := nI (i + 3)) (nI_add i 3) ?_
  refine va_sld hx hb hX0 hbl (Nat.not_le.mpr hbl) G.2.2 (i := nI (i + 3)) (vp_in_nI (n := i + 3) (N := L) (by omega) (by omega)) dL_law_807 ?_
  refine lv_to (y := xs (i + 3)) (congrArg xs (nI_clamp (by omega))) ?_
  refine lv_aload_n hx hb dL_law_808 rfl (lv_at hl 2 rfl) ?_
  obtain ⟨⟨k1, r1, T1⟩, hg, hc⟩ := cs_X11_delayTo T 0 (xs (i + 1)) (xs (i + 2)) (xs (i + 3)) hV (by decide +kernel)
  have hV1 : IV aR0 1586 aK1 aK2 T1 := by rw [show T1 = T from hc.1]; exact hV
  have hg1 := (gl_sp (s_X11_delayTo hg))
  have hg2 := sg_le hg1
  have hg3 := hg1.1
  have hk := hV1.2.2.2.2.2.2
  have hrc1 := hg1.2.2 hrc
  have hr0 := a_room
  refine l_v (h0 := s.heap.size) (As := [.ref (ad 0), .int (xs (i + 1)), .int (xs (i + 2)), .int (xs (i + 3)), .ref aj]) (rest := []) E G hA hX hN (fun _ h => h) hTS hml (v_delayTo l hst D s.heap.size ad T 0 (xs (i + 1)) (xs (i + 2)) (xs (i + 3)) aj f hg hrc h0T h0s) (vx_cwSW 5 hts (glA (L := [Cond.methodLink RL 259 yL_delayTo, Cond.static yL_delayTo, Cond.initialized RL]) (gl_in [(5, 113), (5, 114), (1, 0)] (by decide +kernel) (by decide +kernel)) ⟨(t_of [Cond.codeWith yL_delayTo cL_delayTo 6 (some .int) [(0, 12, 15, 21), (0, 12, 19, 13), (0, 12, 23, 15)]] [(5, 115)] (by decide +kernel) _ List.mem_cons_self), List.all_eq_true.mp (by decide +kernel : [Cond.codeWith yL_delayTo cL_delayTo 6 (some .int) [(0, 12, 15, 21), (0, 12, 19, 13), (0, 12, 23, 15)]].all goodWord = true) _ List.mem_cons_self⟩) rfl rfl rfl (by decide +kernel) ⟨Nat.le_of_ble_eq_true rfl, Nat.le_of_ble_eq_true rfl⟩) rfl hl.1 rfl (lv_room (Nat.le_of_ble_eq_true rfl)) dL_law_809 ⟨by show _ ≤ 601024; omega, by show _ ≤ 7293034; omega⟩ ?_
  intro ad2 H locs had G
  rw [← had 0 h0T] at hl
  refine lv_istore (lv' := [(6, .int (vck 1 2 3 k1)), (5, .int (nI i)), (4, .ref ae), (3, .ref aj), (2, .ref (am 0)), (1, .ref (ad2 0)), (0, .ref b)]) hx hb dL_law_812 hl (by decide) rfl (fun ls hl => ?_)
  refine lv_aload_n hx hb dL_law_814 rfl (lv_at hl 4 rfl) ?_
  refine lv_aload_n hx hb dL_law_815 rfl (lv_at hl 6 rfl) ?_
  refine lv_iload hx hb dL_law_816 (lv_at hl 1 rfl) ?_
  refine lv_iconst (v := 1) hx hb dL_law_818 (by decide) ?_
  refine lv_iadd hx hb dL_law_819 ?_
  refine lv_to (y := nI (i + 1)) (nI_add i 1) ?_
  refine va_sld hx hb hX0 hbl (Nat.not_le.mpr hbl) G.2.2 (i := nI (i + 1)) (vp_in_nI (n := i + 1) (N := L) (by omega) (by omega)) dL_law_820 ?_
  refine lv_to (y := xs (i + 1)) (congrArg xs (nI_clamp (by omega))) ?_
  refine lv_aload_n hx hb dL_law_821 rfl (lv_at hl 6 rfl) ?_
  refine lv_iload hx hb dL_law_822 (lv_at hl 1 rfl) ?_
  refine lv_iconst (v := 2) hx hb dL_law_824 (by decide) ?_
  refine lv_iadd hx hb dL_law_825 ?_
  refine lv_to (y := nI (i + 2)) (nI_add i 2) ?_
  refine va_sld hx hb hX0 hbl (Nat.not_le.mpr hbl) G.2.2 (i := nI (i + 2)) (vp_in_nI (n := i + 2) (N := L) (by omega) (by omega)) dL_law_826 ?_
  refine lv_to (y := xs (i + 2)) (congrArg xs (nI_clamp (by omega))) ?_
  refine lv_aload_n hx hb dL_law_827 rfl (lv_at hl 6 rfl) ?_
  refine lv_iload hx hb dL_law_828 (lv_at hl 1 rfl) ?_
  refine lv_iconst (v := 3) hx hb dL_law_830 (by decide) ?_
  refine lv_iadd hx hb dL_law_831 ?_
  refine lv_to (y := nI (i + 3)) (nI_add i 3) ?_
  refine va_sld hx hb hX0 hbl (Nat.not_le.mpr hbl) G.2.2 (i := nI (i + 3)) (vp_in_nI (n := i + 3) (N := L) (by omega) (by omega)) dL_law_832 ?_
  refine lv_to (y := xs (i + 3)) (congrArg xs (nI_clamp (by omega))) ?_
  obtain ⟨⟨r2, S1⟩, hf, hj⟩ := sj_delayTo Sm (xs (i + 1)) (xs (i + 2)) (xs (i + 3)) hJ
  have hJ1 : JJ S1 := hj
  refine y_mi (As := [.int (xs (i + 1)), .int (xs (i + 2)), .int (xs (i + 3))]) (rest := []) E G hA hX.2.2.2.2 hml (tr_delayTo l D cI cJ cZ am Sm (xs (i + 1)) (xs (i + 2)) (xs (i + 3)) hf) (cwV 3 hts (glM (L := [Cond.methodLink RL 261 yX12_delayTo, Cond.instanceMethod yX12_delayTo, Cond.selects RX12 yX12_delayTo yX12_delayTo, Cond.initialized RX12]) (gl_in [(9, 116), (9, 117), (9, 118), (1, 14)] (by decide +kernel) (by decide +kernel)) ⟨(t_of [Cond.code yX12_delayTo cX12_delayTo 4 (some .int)] [(9, 119)] (by decide +kernel) _ List.mem_cons_self), List.all_eq_true.mp (by decide +kernel : [Cond.code yX12_delayTo cX12_delayTo 4 (some .int)].all goodWord = true) _ List.mem_cons_self⟩) rfl rfl rfl (by decide +kernel) ⟨Nat.le_of_ble_eq_true rfl, Nat.le_of_ble_eq_true rfl⟩) rfl hl.1 rfl (lv_room (Nat.le_of_ble_eq_true rfl)) dL_law_833 ⟨by show _ ≤ 601024; omega, by show _ ≤ 7293034; omega⟩ (fun H locs G => ?_)
  refine lv_istore (lv' := [(7, .int r2), (6, .int (vck 1 2 3 k1)), (5, .int (nI i)), (4, .ref ae), (3, .ref aj), (2, .ref (am 0)), (1, .ref (ad2 0)), (0, .ref b)]) hx hb dL_law_836 hl (by decide) rfl (fun ls hl => ?_)
  refine lv_goto (tgt := 2439) hx hb dL_law_838 (by decide) ?_
  have hl := lv_sub hl [2, 3, 4, 5, 6, 7] rfl
  refine W.widen (k := 19 + T1.1 + (j + 1)) (n := 38467 + sg T1 + 6 * (j + 1)) (by omega) (by omega) ?_
  exact kk ad2 (vfJ k1 f r1.toInt64) g H locs ls hg hf (had 0 h0T) hV1 hrc1 hJ1 G hl
set_option maxHeartbeats 4000000 in
set_option maxRecDepth 100000 in
theorem y_a18 {p : Program} {e : Env} {s : State} {m : MethodId} {below : List Frame} {meth : Method} {c : Code} (l : Launch) (hst : l.stackTraces = false) {b L : Nat} {xs : Nat → Int32} (hx : p.tables.exec = Jvm.exec) (hb : c.code = code) (hml : c.maxLocals = 9) (hown : s.vm.findClass RL = some m.cls) (hts : ∀ w ∈ lw_tbl, w.before #[Value.ref b] s = true) (hX0 : va_X b L xs s s.heap) (hbl : b < s.heap.size) (hX : xT (fun q => s.heap.size ≤ q) s) (hN : nC s) (hTS : sAll s.heap.size s) {D : va_G} {cI cJ cZ cMic cSrc cSt cAI cAJ cD : ClassId} (hK : va_K D vwCl (CT cI cJ cZ cMic cSrc cSt cAI cAJ ++ [(cD, .double)]) s) {Q : State → Prop} {i j : Nat} (hi : i + 6 ≤ L) (hL : L ≤ 3072) (hj : j < 512) {aj ae : Nat} {ad am : Nat → Nat} {T : AT} {Sm : MS} {f : Nat → Int64} {g : Nat → UInt64} {ls : Array Slot} {H : Heap} {locs : List Loc} (hV : IV aR0 1586 aK1 aK2 T) (hrc : RC T) (hJ : JJ Sm) (G : gL cI cJ cZ cMic cSrc cSt cAI cAJ D ad (fun q => s.heap.size ≤ q) s.heap H locs T (oJ aj cJ f :: oD ae cD g :: MW cI cJ cZ am Sm)) (hl : lv_has ls 9 [(5, .int (nI i)), (4, .ref ae), (3, .ref aj), (2, .ref (am 0)), (1, .ref (ad 0)), (0, .ref b)]) (kk : ∀ {k1 : Nat} {r1 : Int32} {T1 : AT} {r2 : Int32} {S1 : MS} (ad2 : Nat → Nat) (f1 : Nat → Int64) (g1 : Nat → UInt64) (H1 : Heap) (locs1 : List Loc) (ls1 : Array Slot), g_X11_spread T 0 (xs (i + 1)) = some (k1, r1, T1) → fr_spread Sm (xs (i + 1)) = some (r2, S1) → ad2 0 = ad 0 → IV aR0 1586 aK1 aK2 T1 → RC T1 → JJ S1 → gL cI cJ cZ cMic cSrc cSt cAI cAJ D ad2 (fun q => s.heap.size ≤ q) s.heap H1 locs1 T1 (oJ aj cJ f1 :: oD ae cD g1 :: MW cI cJ cZ am S1) → lv_has ls1 9 [(5, .int (nI i)), (4, .ref ae), (3, .ref aj), (2, .ref (am 0)), (1, .ref (ad2 0)), (0, .ref b)] → W p l e room_1 s m #[Value.ref b] below meth c H1 locs1 (19 + T1.1 + (j + 1)) (38467 + sg T1 + 6 * (j + 1)) Q (F0 m 2439 ls1 [])) : W p l e room_1 s m #[Value.ref b] below meth c H locs (19 + T.1 + j) (38467 + sg T + 6 * j) Q (F0 m 841 ls []) := by
  have E : cE p c cL_law s m #[Value.ref b] lw_tbl D RL (CT cI cJ cZ cMic cSrc cSt cAI cAJ ++ [(cD, .double)]) := ⟨hx, hb, hts, hown, hK⟩
  have hA : ∀ q : Nat, s.heap.size ≤ q → s.heap.size ≤ q := fun _ h => h
  have h0T : 0 < T.1 := Nat.lt_of_lt_of_le (by decide) hV.1.2.2
  have h0s : T.2.1 0 = (11, 0) := hV.2.1 0 ⟨by decide, by decide +kernel, by decide +kernel⟩
  refine lv_aload_n hx hb dL_law_841 rfl (lv_at hl 4 rfl) ?_
  refine lv_aload_n hx hb dL_law_842 rfl (lv_at hl 5 rfl) ?_
  refine lv_iload hx hb dL_law_843 (lv_at hl 0 rfl) ?_
  refine lv_iconst (v := 1) hx hb dL_law_845 (by decide) ?_
  refine lv_iadd hx hb dL_law_846 ?_
  refine lv_to (y := nI (i + 1)) (nI_add i 1) ?_
  refine va_sld hx hb hX0 hbl (Nat.not_le.mpr hbl) G.2.2 (i := nI (i + 1)) (vp_in_nI (n := i + 1) (N := L) (by omega) (by omega)) dL_law_847 ?_
  refine lv_to (y := xs (i + 1)) (congrArg xs (nI_clamp (by omega))) ?_
  refine lv_aload_n hx hb dL_law_848 rfl (lv_at hl 2 rfl) ?_
  obtain ⟨⟨k1, r1, T1⟩, hg, hc⟩ := cs_X11_spread T 0 (xs (i + 1)) hV (by decide +kernel)
  have hV1 : IV aR0 1586 aK1 aK2 T1 := by rw [show T1 = T from hc.1]; exact hV
  have hg1 := (gl_sp (s_X11_spread hg))
  have hg2 := sg_le hg1
  have hg3 := hg1.1
  have hk := hV1.2.2.2.2.2.2
  have hrc1 := hg1.2.2 hrc
  have hr0 := a_room
  refine l_v (h0 := s.heap.size) (As := [.ref (ad 0), .int (xs (i + 1)), .ref aj]) (rest := []) E G hA hX hN (fun _ h => h) hTS hml (v_spread l hst D s.heap.size ad T 0 (xs (i + 1)) aj f hg hrc h0T h0s) (vx_cwSW 3 hts (glA (L := [Cond.methodLink RL 262 yL_spread, Cond.static yL_spread, Cond.initialized RL]) (gl_in [(5, 121), (5, 122), (1, 0)] (by decide +kernel) (by decide +kernel)) ⟨(t_of [Cond.codeWith yL_spread cL_spread 4 (some .int) [(0, 9, 12, 21), (0, 9, 15, 13)]] [(5, 123)] (by decide +kernel) _ List.mem_cons_self), List.all_eq_true.mp (by decide +kernel : [Cond.codeWith yL_spread cL_spread 4 (some .int) [(0, 9, 12, 21), (0, 9, 15, 13)]].all goodWord = true) _ List.mem_cons_self⟩) rfl rfl rfl (by decide +kernel) ⟨Nat.le_of_ble_eq_true rfl, Nat.le_of_ble_eq_true rfl⟩) rfl hl.1 rfl (lv_room (Nat.le_of_ble_eq_true rfl)) dL_law_849 ⟨by show _ ≤ 601024; omega, by show _ ≤ 7293034; omega⟩ ?_
  intro ad2 H locs had G
  rw [← had 0 h0T] at hl
  refine lv_istore (lv' := [(6, .int (vck 1 2 0 k1)), (5, .int (nI i)), (4, .ref ae), (3, .ref aj), (2, .ref (am 0)), (1, .ref (ad2 0)), (0, .ref b)]) hx hb dL_law_852 hl (by decide) rfl (fun ls hl => ?_)
  refine lv_aload_n hx hb dL_law_854 rfl (lv_at hl 4 rfl) ?_
  refine lv_aload_n hx hb dL_law_855 rfl (lv_at hl 6 rfl) ?_
  refine lv_iload hx hb dL_law_856 (lv_at hl 1 rfl) ?_
  refine lv_iconst (v := 1) hx hb dL_law_858 (by decide) ?_
  refine lv_iadd hx hb dL_law_859 ?_
  refine lv_to (y := nI (i + 1)) (nI_add i 1) ?_
  refine va_sld hx hb hX0 hbl (Nat.not_le.mpr hbl) G.2.2 (i := nI (i + 1)) (vp_in_nI (n := i + 1) (N := L) (by omega) (by omega)) dL_law_860 ?_
  refine lv_to (y := xs (i + 1)) (congrArg xs (nI_clamp (by omega))) ?_
  obtain ⟨⟨r2, S1⟩, hf, hj⟩ := sj_spread Sm (xs (i + 1)) hJ
  have hJ1 : JJ S1 := hj
  refine y_mi (As := [.int (xs (i + 1))]) (rest := []) E G hA hX.2.2.2.2 hml (tr_spread l D cI cJ cZ am Sm (xs (i + 1)) hf) (cwV 1 hts (glM (L := [Cond.methodLink RL 264 yX12_spread, Cond.instanceMethod yX12_spread, Cond.selects RX12 yX12_spread yX12_spread, Cond.initialized RX12]) (gl_in [(9, 123), (9, 124), (9, 125), (1, 14)] (by decide +kernel) (by decide +kernel)) ⟨(t_of [Cond.code yX12_spread cX12_spread 5 (some .int)] [(9, 126)] (by decide +kernel) _ List.mem_cons_self), List.all_eq_true.mp (by decide +kernel : [Cond.code yX12_spread cX12_spread 5 (some .int)].all goodWord = true) _ List.mem_cons_self⟩) rfl rfl rfl (by decide +kernel) ⟨Nat.le_of_ble_eq_true rfl, Nat.le_of_ble_eq_true rfl⟩) rfl hl.1 rfl (lv_room (Nat.le_of_ble_eq_true rfl)) dL_law_861 ⟨by show _ ≤ 601024; omega, by show _ ≤ 7293034; omega⟩ (fun H locs G => ?_)
  refine lv_istore (lv' := [(7, .int r2), (6, .int (vck 1 2 0 k1)), (5, .int (nI i)), (4, .ref ae), (3, .ref aj), (2, .ref (am 0)), (1, .ref (ad2 0)), (0, .ref b)]) hx hb dL_law_864 hl (by decide) rfl (fun ls hl => ?_)
  refine lv_goto (tgt := 2439) hx hb dL_law_866 (by decide) ?_
  have hl := lv_sub hl [2, 3, 4, 5, 6, 7] rfl
  refine W.widen (k := 19 + T1.1 + (j + 1)) (n := 38467 + sg T1 + 6 * (j + 1)) (by omega) (by omega) ?_
  exact kk ad2 (vfJ k1 f r1.toInt64) g H locs ls hg hf (had 0 h0T) hV1 hrc1 hJ1 G hl
set_option maxHeartbeats 4000000 in
set_option maxRecDepth 100000 in
theorem y_a19 {p : Program} {e : Env} {s : State} {m : MethodId} {below : List Frame} {meth : Method} {c : Code} (l : Launch) (hst : l.stackTraces = false) {b L : Nat} {xs : Nat → Int32} (hx : p.tables.exec = Jvm.exec) (hb : c.code = code) (hml : c.maxLocals = 9) (hown : s.vm.findClass RL = some m.cls) (hts : ∀ w ∈ lw_tbl, w.before #[Value.ref b] s = true) (hX0 : va_X b L xs s s.heap) (hbl : b < s.heap.size) (hX : xT (fun q => s.heap.size ≤ q) s) (hN : nC s) (hTS : sAll s.heap.size s) {D : va_G} {cI cJ cZ cMic cSrc cSt cAI cAJ cD : ClassId} (hK : va_K D vwCl (CT cI cJ cZ cMic cSrc cSt cAI cAJ ++ [(cD, .double)]) s) {Q : State → Prop} {i j : Nat} (hi : i + 6 ≤ L) (hL : L ≤ 3072) (hj : j < 512) {aj ae : Nat} {ad am : Nat → Nat} {T : AT} {Sm : MS} {f : Nat → Int64} {g : Nat → UInt64} {ls : Array Slot} {H : Heap} {locs : List Loc} (hV : IV aR0 1586 aK1 aK2 T) (hrc : RC T) (hJ : JJ Sm) (G : gL cI cJ cZ cMic cSrc cSt cAI cAJ D ad (fun q => s.heap.size ≤ q) s.heap H locs T (oJ aj cJ f :: oD ae cD g :: MW cI cJ cZ am Sm)) (hl : lv_has ls 9 [(5, .int (nI i)), (4, .ref ae), (3, .ref aj), (2, .ref (am 0)), (1, .ref (ad 0)), (0, .ref b)]) (kk : ∀ {k1 : Nat} {r1 : Int32} {T1 : AT} {r2 : Int32} {S1 : MS} (ad2 : Nat → Nat) (f1 : Nat → Int64) (g1 : Nat → UInt64) (H1 : Heap) (locs1 : List Loc) (ls1 : Array Slot), g_X11_window T 0 (xs (i + 1)) = some (k1, r1, T1) → fr_window Sm (xs (i + 1)) = some (r2, S1) → ad2 0 = ad 0 → IV aR0 1586 aK1 aK2 T1 → RC T1 → JJ S1 → gL cI cJ cZ cMic cSrc cSt cAI cAJ D ad2 (fun q => s.heap.size ≤ q) s.heap H1 locs1 T1 (oJ aj cJ f1 :: oD ae cD g1 :: MW cI cJ cZ am S1) → lv_has ls1 9 [(5, .int (nI i)), (4, .ref ae), (3, .ref aj), (2, .ref (am 0)), (1, .ref (ad2 0)), (0, .ref b)] → W p l e room_1 s m #[Value.ref b] below meth c H1 locs1 (19 + T1.1 + (j + 1)) (38467 + sg T1 + 6 * (j + 1)) Q (F0 m 2439 ls1 [])) : W p l e room_1 s m #[Value.ref b] below meth c H locs (19 + T.1 + j) (38467 + sg T + 6 * j) Q (F0 m 869 ls []) := by
  have E : cE p c cL_law s m #[Value.ref b] lw_tbl D RL (CT cI cJ cZ cMic cSrc cSt cAI cAJ ++ [(cD, .double)]) := ⟨hx, hb, hts, hown, hK⟩
  have hA : ∀ q : Nat, s.heap.size ≤ q → s.heap.size ≤ q := fun _ h => h
  have h0T : 0 < T.1 := Nat.lt_of_lt_of_le (by decide) hV.1.2.2
  have h0s : T.2.1 0 = (11, 0) := hV.2.1 0 ⟨by decide, by decide +kernel, by decide +kernel⟩
  refine lv_aload_n hx hb dL_law_869 rfl (lv_at hl 4 rfl) ?_
  refine lv_aload_n hx hb dL_law_870 rfl (lv_at hl 5 rfl) ?_
  refine lv_iload hx hb dL_law_871 (lv_at hl 0 rfl) ?_
  refine lv_iconst (v := 1) hx hb dL_law_873 (by decide) ?_
  refine lv_iadd hx hb dL_law_874 ?_
  refine lv_to (y := nI (i + 1)) (nI_add i 1) ?_
  refine va_sld hx hb hX0 hbl (Nat.not_le.mpr hbl) G.2.2 (i := nI (i + 1)) (vp_in_nI (n := i + 1) (N := L) (by omega) (by omega)) dL_law_875 ?_
  refine lv_to (y := xs (i + 1)) (congrArg xs (nI_clamp (by omega))) ?_
  refine lv_aload_n hx hb dL_law_876 rfl (lv_at hl 2 rfl) ?_
  obtain ⟨⟨k1, r1, T1⟩, hg, hc⟩ := cs_X11_window T 0 (xs (i + 1)) hV (by decide +kernel)
  have hV1 : IV aR0 1586 aK1 aK2 T1 := by rw [show T1 = T from hc.1]; exact hV
  have hg1 := (gl_sp (s_X11_window hg))
  have hg2 := sg_le hg1
  have hg3 := hg1.1
  have hk := hV1.2.2.2.2.2.2
  have hrc1 := hg1.2.2 hrc
  have hr0 := a_room
  refine l_v (h0 := s.heap.size) (As := [.ref (ad 0), .int (xs (i + 1)), .ref aj]) (rest := []) E G hA hX hN (fun _ h => h) hTS hml (v_window l hst D s.heap.size ad T 0 (xs (i + 1)) aj f hg hrc h0T h0s) (vx_cwSW 3 hts (glA (L := [Cond.methodLink RL 265 yL_window, Cond.static yL_window, Cond.initialized RL]) (gl_in [(5, 139), (5, 140), (1, 0)] (by decide +kernel) (by decide +kernel)) ⟨(t_of [Cond.codeWith yL_window cL_window 4 (some .int) [(0, 9, 12, 21), (0, 9, 15, 13)]] [(5, 141)] (by decide +kernel) _ List.mem_cons_self), List.all_eq_true.mp (by decide +kernel : [Cond.codeWith yL_window cL_window 4 (some .int) [(0, 9, 12, 21), (0, 9, 15, 13)]].all goodWord = true) _ List.mem_cons_self⟩) rfl rfl rfl (by decide +kernel) ⟨Nat.le_of_ble_eq_true rfl, Nat.le_of_ble_eq_true rfl⟩) rfl hl.1 rfl (lv_room (Nat.le_of_ble_eq_true rfl)) dL_law_877 ⟨by show _ ≤ 601024; omega, by show _ ≤ 7293034; omega⟩ ?_
  intro ad2 H locs had G
  rw [← had 0 h0T] at hl
  refine lv_istore (lv' := [(6, .int (vck 1 2 0 k1)), (5, .int (nI i)), (4, .ref ae), (3, .ref aj), (2, .ref (am 0)), (1, .ref (ad2 0)), (0, .ref b)]) hx hb dL_law_880 hl (by decide) rfl (fun ls hl => ?_)
  refine lv_aload_n hx hb dL_law_882 rfl (lv_at hl 4 rfl) ?_
  refine lv_aload_n hx hb dL_law_883 rfl (lv_at hl 6 rfl) ?_
  refine lv_iload hx hb dL_law_884 (lv_at hl 1 rfl) ?_
  refine lv_iconst (v := 1) hx hb dL_law_886 (by decide) ?_
  refine lv_iadd hx hb dL_law_887 ?_
  refine lv_to (y := nI (i + 1)) (nI_add i 1) ?_
  refine va_sld hx hb hX0 hbl (Nat.not_le.mpr hbl) G.2.2 (i := nI (i + 1)) (vp_in_nI (n := i + 1) (N := L) (by omega) (by omega)) dL_law_888 ?_
  refine lv_to (y := xs (i + 1)) (congrArg xs (nI_clamp (by omega))) ?_
  obtain ⟨⟨r2, S1⟩, hf, hj⟩ := sj_window Sm (xs (i + 1)) hJ
  have hJ1 : JJ S1 := hj
  refine y_mi (As := [.int (xs (i + 1))]) (rest := []) E G hA hX.2.2.2.2 hml (tr_window l D cI cJ cZ am Sm (xs (i + 1)) hf) (cwV 1 hts (glM (L := [Cond.methodLink RL 267 yX12_window, Cond.instanceMethod yX12_window, Cond.selects RX12 yX12_window yX12_window, Cond.initialized RX12]) (gl_in [(9, 132), (9, 133), (9, 134), (1, 14)] (by decide +kernel) (by decide +kernel)) ⟨(t_of [Cond.code yX12_window cX12_window 2 (some .int)] [(9, 135)] (by decide +kernel) _ List.mem_cons_self), List.all_eq_true.mp (by decide +kernel : [Cond.code yX12_window cX12_window 2 (some .int)].all goodWord = true) _ List.mem_cons_self⟩) rfl rfl rfl (by decide +kernel) ⟨Nat.le_of_ble_eq_true rfl, Nat.le_of_ble_eq_true rfl⟩) rfl hl.1 rfl (lv_room (Nat.le_of_ble_eq_true rfl)) dL_law_889 ⟨by show _ ≤ 601024; omega, by show _ ≤ 7293034; omega⟩ (fun H locs G => ?_)
  refine lv_istore (lv' := [(7, .int r2), (6, .int (vck 1 2 0 k1)), (5, .int (nI i)), (4, .ref ae), (3, .ref aj), (2, .ref (am 0)), (1, .ref (ad2 0)), (0, .ref b)]) hx hb dL_law_892 hl (by decide) rfl (fun ls hl => ?_)
  refine lv_goto (tgt := 2439) hx hb dL_law_894 (by decide) ?_
  have hl := lv_sub hl [2, 3, 4, 5, 6, 7] rfl
  refine W.widen (k := 19 + T1.1 + (j + 1)) (n := 38467 + sg T1 + 6 * (j + 1)) (by omega) (by omega) ?_
  exact kk ad2 (vfJ k1 f r1.toInt64) g H locs ls hg hf (had 0 h0T) hV1 hrc1 hJ1 G hl
set_option maxHeartbeats 4000000 in
set_option maxRecDepth 100000 in
theorem y_a20 {p : Program} {e : Env} {s : State} {m : MethodId} {below : List Frame} {meth : Method} {c : Code} (l : Launch) (hst : l.stackTraces = false) {b L : Nat} {xs : Nat → Int32} (hx : p.tables.exec = Jvm.exec) (hb : c.code = code) (hml : c.maxLocals = 9) (hown : s.vm.findClass RL = some m.cls) (hts : ∀ w ∈ lw_tbl, w.before #[Value.ref b] s = true) (hX0 : va_X b L xs s s.heap) (hbl : b < s.heap.size) (hX : xT (fun q => s.heap.size ≤ q) s) (hN : nC s) (hTS : sAll s.heap.size s) {D : va_G} {cI cJ cZ cMic cSrc cSt cAI cAJ cD : ClassId} (hK : va_K D vwCl (CT cI cJ cZ cMic cSrc cSt cAI cAJ ++ [(cD, .double)]) s) {Q : State → Prop} {i j : Nat} (hi : i + 6 ≤ L) (hL : L ≤ 3072) (hj : j < 512) {aj ae : Nat} {ad am : Nat → Nat} {T : AT} {Sm : MS} {f : Nat → Int64} {g : Nat → UInt64} {ls : Array Slot} {H : Heap} {locs : List Loc} (hV : IV aR0 1586 aK1 aK2 T) (hrc : RC T) (hJ : JJ Sm) (G : gL cI cJ cZ cMic cSrc cSt cAI cAJ D ad (fun q => s.heap.size ≤ q) s.heap H locs T (oJ aj cJ f :: oD ae cD g :: MW cI cJ cZ am Sm)) (hl : lv_has ls 9 [(5, .int (nI i)), (4, .ref ae), (3, .ref aj), (2, .ref (am 0)), (1, .ref (ad 0)), (0, .ref b)]) (kk : ∀ {k1 : Nat} {r1 : Int32} {T1 : AT} {r2 : Int32} {S1 : MS} (ad2 : Nat → Nat) (f1 : Nat → Int64) (g1 : Nat → UInt64) (H1 : Heap) (locs1 : List Loc) (ls1 : Array Slot), g_X11_sample T 0 (xs (i + 1)) (xs (i + 2)) = some (k1, r1, T1) → fr_sample Sm (xs (i + 1)) (xs (i + 2)) = some (r2, S1) → ad2 0 = ad 0 → IV aR0 1586 aK1 aK2 T1 → RC T1 → JJ S1 → gL cI cJ cZ cMic cSrc cSt cAI cAJ D ad2 (fun q => s.heap.size ≤ q) s.heap H1 locs1 T1 (oJ aj cJ f1 :: oD ae cD g1 :: MW cI cJ cZ am S1) → lv_has ls1 9 [(5, .int (nI i)), (4, .ref ae), (3, .ref aj), (2, .ref (am 0)), (1, .ref (ad2 0)), (0, .ref b)] → W p l e room_1 s m #[Value.ref b] below meth c H1 locs1 (19 + T1.1 + (j + 1)) (38467 + sg T1 + 6 * (j + 1)) Q (F0 m 2439 ls1 [])) : W p l e room_1 s m #[Value.ref b] below meth c H locs (19 + T.1 + j) (38467 + sg T + 6 * j) Q (F0 m 897 ls []) := by
  have E : cE p c cL_law s m #[Value.ref b] lw_tbl D RL (CT cI cJ cZ cMic cSrc cSt cAI cAJ ++ [(cD, .double)]) := ⟨hx, hb, hts, hown, hK⟩
  have hA : ∀ q : Nat, s.heap.size ≤ q → s.heap.size ≤ q := fun _ h => h
  have h0T : 0 < T.1 := Nat.lt_of_lt_of_le (by decide) hV.1.2.2
  have h0s : T.2.1 0 = (11, 0) := hV.2.1 0 ⟨by decide, by decide +kernel, by decide +kernel⟩
  refine lv_aload_n hx hb dL_law_897 rfl (lv_at hl 4 rfl) ?_
  refine lv_aload_n hx hb dL_law_898 rfl (lv_at hl 5 rfl) ?_
  refine lv_iload hx hb dL_law_899 (lv_at hl 0 rfl) ?_
  refine lv_iconst (v := 1) hx hb dL_law_901 (by decide) ?_
  refine lv_iadd hx hb dL_law_902 ?_
  refine lv_to (y := nI (i + 1)) (nI_add i 1) ?_
  refine va_sld hx hb hX0 hbl (Nat.not_le.mpr hbl) G.2.2 (i := nI (i + 1)) (vp_in_nI (n := i + 1) (N := L) (by omega) (by omega)) dL_law_903 ?_
  refine lv_to (y := xs (i + 1)) (congrArg xs (nI_clamp (by omega))) ?_
  refine lv_aload_n hx hb dL_law_904 rfl (lv_at hl 5 rfl) ?_
  refine lv_iload hx hb dL_law_905 (lv_at hl 0 rfl) ?_
  refine lv_iconst (v := 2) hx hb dL_law_907 (by decide) ?_
  refine lv_iadd hx hb dL_law_908 ?_
  refine lv_to (y := nI (i + 2)) (nI_add i 2) ?_
  refine va_sld hx hb hX0 hbl (Nat.not_le.mpr hbl) G.2.2 (i := nI (i + 2)) (vp_in_nI (n := i + 2) (N := L) (by omega) (by omega)) dL_law_909 ?_
  refine lv_to (y := xs (i + 2)) (congrArg xs (nI_clamp (by omega))) ?_
  refine lv_aload_n hx hb dL_law_910 rfl (lv_at hl 2 rfl) ?_
  obtain ⟨⟨k1, r1, T1⟩, hg, hc⟩ := cs_X11_sample T 0 (xs (i + 1)) (xs (i + 2)) hV (by decide +kernel)
  have hV1 : IV aR0 1586 aK1 aK2 T1 := by rw [show T1 = T from hc.1]; exact hV
  have hg1 := (gl_sp (s_X11_sample hg))
  have hg2 := sg_le hg1
  have hg3 := hg1.1
  have hk := hV1.2.2.2.2.2.2
  have hrc1 := hg1.2.2 hrc
  have hr0 := a_room
  refine l_v (h0 := s.heap.size) (As := [.ref (ad 0), .int (xs (i + 1)), .int (xs (i + 2)), .ref aj]) (rest := []) E G hA hX hN (fun _ h => h) hTS hml (v_sample l hst D s.heap.size ad T 0 (xs (i + 1)) (xs (i + 2)) aj f hg hrc h0T h0s) (vx_cwSW 4 hts (glA (L := [Cond.methodLink RL 268 yL_sample, Cond.static yL_sample, Cond.initialized RL]) (gl_in [(5, 150), (5, 151), (1, 0)] (by decide +kernel) (by decide +kernel)) ⟨(t_of [Cond.codeWith yL_sample cL_sample 5 (some .int) [(0, 10, 13, 21), (0, 10, 17, 13), (0, 10, 21, 15)]] [(5, 152)] (by decide +kernel) _ List.mem_cons_self), List.all_eq_true.mp (by decide +kernel : [Cond.codeWith yL_sample cL_sample 5 (some .int) [(0, 10, 13, 21), (0, 10, 17, 13), (0, 10, 21, 15)]].all goodWord = true) _ List.mem_cons_self⟩) rfl rfl rfl (by decide +kernel) ⟨Nat.le_of_ble_eq_true rfl, Nat.le_of_ble_eq_true rfl⟩) rfl hl.1 rfl (lv_room (Nat.le_of_ble_eq_true rfl)) dL_law_911 ⟨by show _ ≤ 601024; omega, by show _ ≤ 7293034; omega⟩ ?_
  intro ad2 H locs had G
  rw [← had 0 h0T] at hl
  refine lv_istore (lv' := [(6, .int (vck 1 2 3 k1)), (5, .int (nI i)), (4, .ref ae), (3, .ref aj), (2, .ref (am 0)), (1, .ref (ad2 0)), (0, .ref b)]) hx hb dL_law_914 hl (by decide) rfl (fun ls hl => ?_)
  refine lv_aload_n hx hb dL_law_916 rfl (lv_at hl 4 rfl) ?_
  refine lv_aload_n hx hb dL_law_917 rfl (lv_at hl 6 rfl) ?_
  refine lv_iload hx hb dL_law_918 (lv_at hl 1 rfl) ?_
  refine lv_iconst (v := 1) hx hb dL_law_920 (by decide) ?_
  refine lv_iadd hx hb dL_law_921 ?_
  refine lv_to (y := nI (i + 1)) (nI_add i 1) ?_
  refine va_sld hx hb hX0 hbl (Nat.not_le.mpr hbl) G.2.2 (i := nI (i + 1)) (vp_in_nI (n := i + 1) (N := L) (by omega) (by omega)) dL_law_922 ?_
  refine lv_to (y := xs (i + 1)) (congrArg xs (nI_clamp (by omega))) ?_
  refine lv_aload_n hx hb dL_law_923 rfl (lv_at hl 6 rfl) ?_
  refine lv_iload hx hb dL_law_924 (lv_at hl 1 rfl) ?_
  refine lv_iconst (v := 2) hx hb dL_law_926 (by decide) ?_
  refine lv_iadd hx hb dL_law_927 ?_
  refine lv_to (y := nI (i + 2)) (nI_add i 2) ?_
  refine va_sld hx hb hX0 hbl (Nat.not_le.mpr hbl) G.2.2 (i := nI (i + 2)) (vp_in_nI (n := i + 2) (N := L) (by omega) (by omega)) dL_law_928 ?_
  refine lv_to (y := xs (i + 2)) (congrArg xs (nI_clamp (by omega))) ?_
  obtain ⟨⟨r2, S1⟩, hf, hj⟩ := sj_sample Sm (xs (i + 1)) (xs (i + 2)) hJ
  have hJ1 : JJ S1 := hj
  refine y_mi (As := [.int (xs (i + 1)), .int (xs (i + 2))]) (rest := []) E G hA hX.2.2.2.2 hml (tr_sample l D cI cJ cZ am Sm (xs (i + 1)) (xs (i + 2)) hf) (cwV 2 hts (glM (L := [Cond.methodLink RL 270 yX12_sample, Cond.instanceMethod yX12_sample, Cond.selects RX12 yX12_sample yX12_sample, Cond.initialized RX12]) (gl_in [(9, 144), (9, 145), (9, 146), (1, 14)] (by decide +kernel) (by decide +kernel)) ⟨(t_of [Cond.code yX12_sample cX12_sample 3 (some .int)] [(9, 147)] (by decide +kernel) _ List.mem_cons_self), List.all_eq_true.mp (by decide +kernel : [Cond.code yX12_sample cX12_sample 3 (some .int)].all goodWord = true) _ List.mem_cons_self⟩) rfl rfl rfl (by decide +kernel) ⟨Nat.le_of_ble_eq_true rfl, Nat.le_of_ble_eq_true rfl⟩) rfl hl.1 rfl (lv_room (Nat.le_of_ble_eq_true rfl)) dL_law_929 ⟨by show _ ≤ 601024; omega, by show _ ≤ 7293034; omega⟩ (fun H locs G => ?_)
  refine lv_istore (lv' := [(7, .int r2), (6, .int (vck 1 2 3 k1)), (5, .int (nI i)), (4, .ref ae), (3, .ref aj), (2, .ref (am 0)), (1, .ref (ad2 0)), (0, .ref b)]) hx hb dL_law_932 hl (by decide) rfl (fun ls hl => ?_)
  refine lv_goto (tgt := 2439) hx hb dL_law_934 (by decide) ?_
  have hl := lv_sub hl [2, 3, 4, 5, 6, 7] rfl
  refine W.widen (k := 19 + T1.1 + (j + 1)) (n := 38467 + sg T1 + 6 * (j + 1)) (by omega) (by omega) ?_
  exact kk ad2 (vfJ k1 f r1.toInt64) g H locs ls hg hf (had 0 h0T) hV1 hrc1 hJ1 G hl
set_option maxHeartbeats 4000000 in
set_option maxRecDepth 100000 in
theorem y_a21 {p : Program} {e : Env} {s : State} {m : MethodId} {below : List Frame} {meth : Method} {c : Code} (l : Launch) (hst : l.stackTraces = false) {b L : Nat} {xs : Nat → Int32} (hx : p.tables.exec = Jvm.exec) (hb : c.code = code) (hml : c.maxLocals = 9) (hown : s.vm.findClass RL = some m.cls) (hts : ∀ w ∈ lw_tbl, w.before #[Value.ref b] s = true) (hX0 : va_X b L xs s s.heap) (hbl : b < s.heap.size) (hX : xT (fun q => s.heap.size ≤ q) s) (hN : nC s) (hTS : sAll s.heap.size s) {D : va_G} {cI cJ cZ cMic cSrc cSt cAI cAJ cD : ClassId} (hK : va_K D vwCl (CT cI cJ cZ cMic cSrc cSt cAI cAJ ++ [(cD, .double)]) s) {Q : State → Prop} {i j : Nat} (hi : i + 6 ≤ L) (hL : L ≤ 3072) (hj : j < 512) {aj ae : Nat} {ad am : Nat → Nat} {T : AT} {Sm : MS} {f : Nat → Int64} {g : Nat → UInt64} {ls : Array Slot} {H : Heap} {locs : List Loc} (hV : IV aR0 1586 aK1 aK2 T) (hrc : RC T) (hJ : JJ Sm) (G : gL cI cJ cZ cMic cSrc cSt cAI cAJ D ad (fun q => s.heap.size ≤ q) s.heap H locs T (oJ aj cJ f :: oD ae cD g :: MW cI cJ cZ am Sm)) (hl : lv_has ls 9 [(5, .int (nI i)), (4, .ref ae), (3, .ref aj), (2, .ref (am 0)), (1, .ref (ad 0)), (0, .ref b)]) (kk : ∀ {k1 : Nat} {r1 : Int32} {T1 : AT} {r2 : Int32} {S1 : MS} (ad2 : Nat → Nat) (f1 : Nat → Int64) (g1 : Nat → UInt64) (H1 : Heap) (locs1 : List Loc) (ls1 : Array Slot), g_X11_beam T 0 (xs (i + 1)) (xs (i + 2)) = some (k1, r1, T1) → fr_beam Sm (xs (i + 1)) (xs (i + 2)) = some (r2, S1) → ad2 0 = ad 0 → IV aR0 1586 aK1 aK2 T1 → RC T1 → JJ S1 → gL cI cJ cZ cMic cSrc cSt cAI cAJ D ad2 (fun q => s.heap.size ≤ q) s.heap H1 locs1 T1 (oJ aj cJ f1 :: oD ae cD g1 :: MW cI cJ cZ am S1) → lv_has ls1 9 [(5, .int (nI i)), (4, .ref ae), (3, .ref aj), (2, .ref (am 0)), (1, .ref (ad2 0)), (0, .ref b)] → W p l e room_1 s m #[Value.ref b] below meth c H1 locs1 (19 + T1.1 + (j + 1)) (38467 + sg T1 + 6 * (j + 1)) Q (F0 m 2439 ls1 [])) : W p l e room_1 s m #[Value.ref b] below meth c H locs (19 + T.1 + j) (38467 + sg T + 6 * j) Q (F0 m 937 ls []) := by
  have E : cE p c cL_law s m #[Value.ref b] lw_tbl D RL (CT cI cJ cZ cMic cSrc cSt cAI cAJ ++ [(cD, .double)]) := ⟨hx, hb, hts, hown, hK⟩
  have hA : ∀ q : Nat, s.heap.size ≤ q → s.heap.size ≤ q := fun _ h => h
  have h0T : 0 < T.1 := Nat.lt_of_lt_of_le (by decide) hV.1.2.2
  have h0s : T.2.1 0 = (11, 0) := hV.2.1 0 ⟨by decide, by decide +kernel, by decide +kernel⟩
  refine lv_aload_n hx hb dL_law_937 rfl (lv_at hl 4 rfl) ?_
  refine lv_aload_n hx hb dL_law_938 rfl (lv_at hl 5 rfl) ?_
  refine lv_iload hx hb dL_law_939 (lv_at hl 0 rfl) ?_
  refine lv_iconst (v := 1) hx hb dL_law_941 (by decide) ?_
  refine lv_iadd hx hb dL_law_942 ?_
  refine lv_to (y := nI (i + 1)) (nI_add i 1) ?_
  refine va_sld hx hb hX0 hbl (Nat.not_le.mpr hbl) G.2.2 (i := nI (i + 1)) (vp_in_nI (n := i + 1) (N := L) (by omega) (by omega)) dL_law_943 ?_
  refine lv_to (y := xs (i + 1)) (congrArg xs (nI_clamp (by omega))) ?_
  refine lv_aload_n hx hb dL_law_944 rfl (lv_at hl 5 rfl) ?_
  refine lv_iload hx hb dL_law_945 (lv_at hl 0 rfl) ?_
  refine lv_iconst (v := 2) hx hb dL_law_947 (by decide) ?_
  refine lv_iadd hx hb dL_law_948 ?_
  refine lv_to (y := nI (i + 2)) (nI_add i 2) ?_
  refine va_sld hx hb hX0 hbl (Nat.not_le.mpr hbl) G.2.2 (i := nI (i + 2)) (vp_in_nI (n := i + 2) (N := L) (by omega) (by omega)) dL_law_949 ?_
  refine lv_to (y := xs (i + 2)) (congrArg xs (nI_clamp (by omega))) ?_
  refine lv_aload_n hx hb dL_law_950 rfl (lv_at hl 2 rfl) ?_
  obtain ⟨⟨k1, r1, T1⟩, hg, hc⟩ := cs_X11_beam T 0 (xs (i + 1)) (xs (i + 2)) hV (by decide +kernel)
  have hV1 : IV aR0 1586 aK1 aK2 T1 := hc.1.1
  have hg1 := s_X11_beam hg
  have hg2 := sg_le hg1
  have hg3 := hg1.1
  have hk := hV1.2.2.2.2.2.2
  have hrc1 := hg1.2.2 hrc
  have hr0 := a_room
  refine l_v (h0 := s.heap.size) (As := [.ref (ad 0), .int (xs (i + 1)), .int (xs (i + 2)), .ref aj]) (rest := []) E G hA hX hN (fun _ h => h) hTS hml (v_beam l hst D s.heap.size ad T 0 (xs (i + 1)) (xs (i + 2)) aj f hg hrc h0T h0s) (vx_cwSW 4 hts (glA (L := [Cond.methodLink RL 271 yL_beam, Cond.static yL_beam, Cond.initialized RL]) (gl_in [(5, 162), (5, 163), (1, 0)] (by decide +kernel) (by decide +kernel)) ⟨(t_of [Cond.codeWith yL_beam cL_beam 5 (some .int) [(0, 10, 13, 21), (0, 10, 17, 13), (0, 10, 21, 15)]] [(5, 164)] (by decide +kernel) _ List.mem_cons_self), List.all_eq_true.mp (by decide +kernel : [Cond.codeWith yL_beam cL_beam 5 (some .int) [(0, 10, 13, 21), (0, 10, 17, 13), (0, 10, 21, 15)]].all goodWord = true) _ List.mem_cons_self⟩) rfl rfl rfl (by decide +kernel) ⟨Nat.le_of_ble_eq_true rfl, Nat.le_of_ble_eq_true rfl⟩) rfl hl.1 rfl (lv_room (Nat.le_of_ble_eq_true rfl)) dL_law_951 ⟨by show _ ≤ 601024; omega, by show _ ≤ 7293034; omega⟩ ?_
  intro ad2 H locs had G
  rw [← had 0 h0T] at hl
  refine lv_istore (lv' := [(6, .int (vck 1 2 3 k1)), (5, .int (nI i)), (4, .ref ae), (3, .ref aj), (2, .ref (am 0)), (1, .ref (ad2 0)), (0, .ref b)]) hx hb dL_law_954 hl (by decide) rfl (fun ls hl => ?_)
  refine lv_aload_n hx hb dL_law_956 rfl (lv_at hl 4 rfl) ?_
  refine lv_aload_n hx hb dL_law_957 rfl (lv_at hl 6 rfl) ?_
  refine lv_iload hx hb dL_law_958 (lv_at hl 1 rfl) ?_
  refine lv_iconst (v := 1) hx hb dL_law_960 (by decide) ?_
  refine lv_iadd hx hb dL_law_961 ?_
  refine lv_to (y := nI (i + 1)) (nI_add i 1) ?_
  refine va_sld hx hb hX0 hbl (Nat.not_le.mpr hbl) G.2.2 (i := nI (i + 1)) (vp_in_nI (n := i + 1) (N := L) (by omega) (by omega)) dL_law_962 ?_
  refine lv_to (y := xs (i + 1)) (congrArg xs (nI_clamp (by omega))) ?_
  refine lv_aload_n hx hb dL_law_963 rfl (lv_at hl 6 rfl) ?_
  refine lv_iload hx hb dL_law_964 (lv_at hl 1 rfl) ?_
  refine lv_iconst (v := 2) hx hb dL_law_966 (by decide) ?_
  refine lv_iadd hx hb dL_law_967 ?_
  refine lv_to (y := nI (i + 2)) (nI_add i 2) ?_
  refine va_sld hx hb hX0 hbl (Nat.not_le.mpr hbl) G.2.2 (i := nI (i + 2)) (vp_in_nI (n := i + 2) (N := L) (by omega) (by omega)) dL_law_968 ?_
  refine lv_to (y := xs (i + 2)) (congrArg xs (nI_clamp (by omega))) ?_
  obtain ⟨⟨r2, S1⟩, hf, hj⟩ := sj_beam Sm (xs (i + 1)) (xs (i + 2)) hJ
  have hJ1 : JJ S1 := hj
  refine y_mi (As := [.int (xs (i + 1)), .int (xs (i + 2))]) (rest := []) E G hA hX.2.2.2.2 hml (tr_beam l D cI cJ cZ am Sm (xs (i + 1)) (xs (i + 2)) hf) (cwV 2 hts (glM (L := [Cond.methodLink RL 273 yX12_beam, Cond.instanceMethod yX12_beam, Cond.selects RX12 yX12_beam yX12_beam, Cond.initialized RX12]) (gl_in [(9, 148), (9, 149), (9, 150), (1, 14)] (by decide +kernel) (by decide +kernel)) ⟨(t_of [Cond.code yX12_beam cX12_beam 3 (some .int)] [(9, 151)] (by decide +kernel) _ List.mem_cons_self), List.all_eq_true.mp (by decide +kernel : [Cond.code yX12_beam cX12_beam 3 (some .int)].all goodWord = true) _ List.mem_cons_self⟩) rfl rfl rfl (by decide +kernel) ⟨Nat.le_of_ble_eq_true rfl, Nat.le_of_ble_eq_true rfl⟩) rfl hl.1 rfl (lv_room (Nat.le_of_ble_eq_true rfl)) dL_law_969 ⟨by show _ ≤ 601024; omega, by show _ ≤ 7293034; omega⟩ (fun H locs G => ?_)
  refine lv_istore (lv' := [(7, .int r2), (6, .int (vck 1 2 3 k1)), (5, .int (nI i)), (4, .ref ae), (3, .ref aj), (2, .ref (am 0)), (1, .ref (ad2 0)), (0, .ref b)]) hx hb dL_law_972 hl (by decide) rfl (fun ls hl => ?_)
  refine lv_goto (tgt := 2439) hx hb dL_law_974 (by decide) ?_
  have hl := lv_sub hl [2, 3, 4, 5, 6, 7] rfl
  refine W.widen (k := 19 + T1.1 + (j + 1)) (n := 38467 + sg T1 + 6 * (j + 1)) (by omega) (by omega) ?_
  exact kk ad2 (vfJ k1 f r1.toInt64) g H locs ls hg hf (had 0 h0T) hV1 hrc1 hJ1 G hl
set_option maxHeartbeats 4000000 in
set_option maxRecDepth 100000 in
theorem y_a22 {p : Program} {e : Env} {s : State} {m : MethodId} {below : List Frame} {meth : Method} {c : Code} (l : Launch) (hst : l.stackTraces = false) {b L : Nat} {xs : Nat → Int32} (hx : p.tables.exec = Jvm.exec) (hb : c.code = code) (hml : c.maxLocals = 9) (hown : s.vm.findClass RL = some m.cls) (hts : ∀ w ∈ lw_tbl, w.before #[Value.ref b] s = true) (hX0 : va_X b L xs s s.heap) (hbl : b < s.heap.size) (hX : xT (fun q => s.heap.size ≤ q) s) (hN : nC s) (hTS : sAll s.heap.size s) {D : va_G} {cI cJ cZ cMic cSrc cSt cAI cAJ cD : ClassId} (hK : va_K D vwCl (CT cI cJ cZ cMic cSrc cSt cAI cAJ ++ [(cD, .double)]) s) {Q : State → Prop} {i j : Nat} (hi : i + 6 ≤ L) (hL : L ≤ 3072) (hj : j < 512) {aj ae : Nat} {ad am : Nat → Nat} {T : AT} {Sm : MS} {f : Nat → Int64} {g : Nat → UInt64} {ls : Array Slot} {H : Heap} {locs : List Loc} (hV : IV aR0 1586 aK1 aK2 T) (hrc : RC T) (hJ : JJ Sm) (G : gL cI cJ cZ cMic cSrc cSt cAI cAJ D ad (fun q => s.heap.size ≤ q) s.heap H locs T (oJ aj cJ f :: oD ae cD g :: MW cI cJ cZ am Sm)) (hl : lv_has ls 9 [(5, .int (nI i)), (4, .ref ae), (3, .ref aj), (2, .ref (am 0)), (1, .ref (ad 0)), (0, .ref b)]) (kk : ∀ {k1 : Nat} {r1 : Int64} {T1 : AT} {r2 : Int64} {S1 : MS} (ad2 : Nat → Nat) (f1 : Nat → Int64) (g1 : Nat → UInt64) (H1 : Heap) (locs1 : List Loc) (ls1 : Array Slot), g_X11_power T 0 (xs (i + 1)) = some (k1, r1, T1) → fr_power Sm (xs (i + 1)) = some (r2, S1) → ad2 0 = ad 0 → IV aR0 1586 aK1 aK2 T1 → RC T1 → JJ S1 → gL cI cJ cZ cMic cSrc cSt cAI cAJ D ad2 (fun q => s.heap.size ≤ q) s.heap H1 locs1 T1 (oJ aj cJ f1 :: oD ae cD g1 :: MW cI cJ cZ am S1) → lv_has ls1 9 [(5, .int (nI i)), (4, .ref ae), (3, .ref aj), (2, .ref (am 0)), (1, .ref (ad2 0)), (0, .ref b)] → W p l e room_1 s m #[Value.ref b] below meth c H1 locs1 (19 + T1.1 + (j + 1)) (38467 + sg T1 + 6 * (j + 1)) Q (F0 m 2439 ls1 [])) : W p l e room_1 s m #[Value.ref b] below meth c H locs (19 + T.1 + j) (38467 + sg T + 6 * j) Q (F0 m 977 ls []) := by
  have E : cE p c cL_law s m #[Value.ref b] lw_tbl D RL (CT cI cJ cZ cMic cSrc cSt cAI cAJ ++ [(cD, .double)]) := ⟨hx, hb, hts, hown, hK⟩
  have hA : ∀ q : Nat, s.heap.size ≤ q → s.heap.size ≤ q := fun _ h => h
  have h0T : 0 < T.1 := Nat.lt_of_lt_of_le (by decide) hV.1.2.2
  have h0s : T.2.1 0 = (11, 0) := hV.2.1 0 ⟨by decide, by decide +kernel, by decide +kernel⟩
  refine lv_aload_n hx hb dL_law_977 rfl (lv_at hl 4 rfl) ?_
  refine lv_aload_n hx hb dL_law_978 rfl (lv_at hl 5 rfl) ?_
  refine lv_iload hx hb dL_law_979 (lv_at hl 0 rfl) ?_
  refine lv_iconst (v := 1) hx hb dL_law_981 (by decide) ?_
  refine lv_iadd hx hb dL_law_982 ?_
  refine lv_to (y := nI (i + 1)) (nI_add i 1) ?_
  refine va_sld hx hb hX0 hbl (Nat.not_le.mpr hbl) G.2.2 (i := nI (i + 1)) (vp_in_nI (n := i + 1) (N := L) (by omega) (by omega)) dL_law_983 ?_
  refine lv_to (y := xs (i + 1)) (congrArg xs (nI_clamp (by omega))) ?_
  refine lv_aload_n hx hb dL_law_984 rfl (lv_at hl 2 rfl) ?_
  obtain ⟨⟨k1, r1, T1⟩, hg, hc⟩ := cs_X11_power T 0 (xs (i + 1)) hV (by decide +kernel)
  have hV1 : IV aR0 1586 aK1 aK2 T1 := hc.1.1
  have hg1 := s_X11_power hg
  have hg2 := sg_le hg1
  have hg3 := hg1.1
  have hk := hV1.2.2.2.2.2.2
  have hrc1 := hg1.2.2 hrc
  have hr0 := a_room
  refine l_v (h0 := s.heap.size) (As := [.ref (ad 0), .int (xs (i + 1)), .ref aj]) (rest := []) E G hA hX hN (fun _ h => h) hTS hml (v_power l hst D s.heap.size ad T 0 (xs (i + 1)) aj f hg hrc h0T h0s) (vx_cwSW 3 hts (glA (L := [Cond.methodLink RL 274 yL_power, Cond.static yL_power, Cond.initialized RL]) (gl_in [(5, 181), (5, 182), (1, 0)] (by decide +kernel) (by decide +kernel)) ⟨(t_of [Cond.codeWith yL_power cL_power 4 (some .int) [(0, 8, 11, 21), (0, 8, 14, 13)]] [(5, 183)] (by decide +kernel) _ List.mem_cons_self), List.all_eq_true.mp (by decide +kernel : [Cond.codeWith yL_power cL_power 4 (some .int) [(0, 8, 11, 21), (0, 8, 14, 13)]].all goodWord = true) _ List.mem_cons_self⟩) rfl rfl rfl (by decide +kernel) ⟨Nat.le_of_ble_eq_true rfl, Nat.le_of_ble_eq_true rfl⟩) rfl hl.1 rfl (lv_room (Nat.le_of_ble_eq_true rfl)) dL_law_985 ⟨by show _ ≤ 601024; omega, by show _ ≤ 7293034; omega⟩ ?_
  intro ad2 H locs had G
  rw [← had 0 h0T] at hl
  refine lv_istore (lv' := [(6, .int (vck 1 2 0 k1)), (5, .int (nI i)), (4, .ref ae), (3, .ref aj), (2, .ref (am 0)), (1, .ref (ad2 0)), (0, .ref b)]) hx hb dL_law_988 hl (by decide) rfl (fun ls hl => ?_)
  refine lv_aload_n hx hb dL_law_990 rfl (lv_at hl 4 rfl) ?_
  refine lv_aload_n hx hb dL_law_991 rfl (lv_at hl 6 rfl) ?_
  refine lv_iload hx hb dL_law_992 (lv_at hl 1 rfl) ?_
  refine lv_iconst (v := 1) hx hb dL_law_994 (by decide) ?_
  refine lv_iadd hx hb dL_law_995 ?_
  refine lv_to (y := nI (i + 1)) (nI_add i 1) ?_
  refine va_sld hx hb hX0 hbl (Nat.not_le.mpr hbl) G.2.2 (i := nI (i + 1)) (vp_in_nI (n := i + 1) (N := L) (by omega) (by omega)) dL_law_996 ?_
  refine lv_to (y := xs (i + 1)) (congrArg xs (nI_clamp (by omega))) ?_
  obtain ⟨⟨r2, S1⟩, hf, hj⟩ := sj_power Sm (xs (i + 1)) hJ
  have hJ1 : JJ S1 := hj
  refine y_ml (As := [.int (xs (i + 1))]) (rest := []) E G hA hX.2.2.2.2 hml (tr_power l D cI cJ cZ am Sm (xs (i + 1)) hf) (cwV 1 hts (glM (L := [Cond.methodLink RL 276 yX12_power, Cond.instanceMethod yX12_power, Cond.selects RX12 yX12_power yX12_power, Cond.initialized RX12]) (gl_in [(9, 156), (9, 157), (9, 158), (1, 14)] (by decide +kernel) (by decide +kernel)) ⟨(t_of [Cond.code yX12_power cX12_power 2 (some .long)] [(9, 159)] (by decide +kernel) _ List.mem_cons_self), List.all_eq_true.mp (by decide +kernel : [Cond.code yX12_power cX12_power 2 (some .long)].all goodWord = true) _ List.mem_cons_self⟩) rfl rfl rfl (by decide +kernel) ⟨Nat.le_of_ble_eq_true rfl, Nat.le_of_ble_eq_true rfl⟩) rfl hl.1 rfl (lv_room (Nat.le_of_ble_eq_true rfl)) dL_law_997 ⟨by show _ ≤ 601024; omega, by show _ ≤ 7293034; omega⟩ (fun H locs G => ?_)
  refine lv_lstore (lv' := [(7, .long r2), (6, .int (vck 1 2 0 k1)), (5, .int (nI i)), (4, .ref ae), (3, .ref aj), (2, .ref (am 0)), (1, .ref (ad2 0)), (0, .ref b)]) hx hb dL_law_1000 hl (by decide) rfl (fun ls hl => ?_)
  refine lv_goto (tgt := 2439) hx hb dL_law_1002 (by decide) ?_
  have hl := lv_sub hl [2, 3, 4, 5, 6, 7] rfl
  refine W.widen (k := 19 + T1.1 + (j + 1)) (n := 38467 + sg T1 + 6 * (j + 1)) (by omega) (by omega) ?_
  exact kk ad2 (vfJ k1 f r1) g H locs ls hg hf (had 0 h0T) hV1 hrc1 hJ1 G hl
set_option maxHeartbeats 4000000 in
set_option maxRecDepth 100000 in
theorem y_a23 {p : Program} {e : Env} {s : State} {m : MethodId} {below : List Frame} {meth : Method} {c : Code} (l : Launch) (hst : l.stackTraces = false) {b L : Nat} {xs : Nat → Int32} (hx : p.tables.exec = Jvm.exec) (hb : c.code = code) (hml : c.maxLocals = 9) (hown : s.vm.findClass RL = some m.cls) (hts : ∀ w ∈ lw_tbl, w.before #[Value.ref b] s = true) (hX0 : va_X b L xs s s.heap) (hbl : b < s.heap.size) (hX : xT (fun q => s.heap.size ≤ q) s) (hN : nC s) (hTS : sAll s.heap.size s) {D : va_G} {cI cJ cZ cMic cSrc cSt cAI cAJ cD : ClassId} (hK : va_K D vwCl (CT cI cJ cZ cMic cSrc cSt cAI cAJ ++ [(cD, .double)]) s) {Q : State → Prop} {i j : Nat} (hi : i + 6 ≤ L) (hL : L ≤ 3072) (hj : j < 512) {aj ae : Nat} {ad am : Nat → Nat} {T : AT} {Sm : MS} {f : Nat → Int64} {g : Nat → UInt64} {ls : Array Slot} {H : Heap} {locs : List Loc} (hV : IV aR0 1586 aK1 aK2 T) (hrc : RC T) (hJ : JJ Sm) (G : gL cI cJ cZ cMic cSrc cSt cAI cAJ D ad (fun q => s.heap.size ≤ q) s.heap H locs T (oJ aj cJ f :: oD ae cD g :: MW cI cJ cZ am Sm)) (hl : lv_has ls 9 [(5, .int (nI i)), (4, .ref ae), (3, .ref aj), (2, .ref (am 0)), (1, .ref (ad 0)), (0, .ref b)]) (kk : ∀ {k1 : Nat} {r1 : Int64} {T1 : AT} {r2 : Int64} {S1 : MS} (ad2 : Nat → Nat) (f1 : Nat → Int64) (g1 : Nat → UInt64) (H1 : Heap) (locs1 : List Loc) (ls1 : Array Slot), g_X11_powerAt T 0 (xs (i + 1)) (xs (i + 2)) = some (k1, r1, T1) → fr_powerAt Sm (xs (i + 1)) (xs (i + 2)) = some (r2, S1) → ad2 0 = ad 0 → IV aR0 1586 aK1 aK2 T1 → RC T1 → JJ S1 → gL cI cJ cZ cMic cSrc cSt cAI cAJ D ad2 (fun q => s.heap.size ≤ q) s.heap H1 locs1 T1 (oJ aj cJ f1 :: oD ae cD g1 :: MW cI cJ cZ am S1) → lv_has ls1 9 [(5, .int (nI i)), (4, .ref ae), (3, .ref aj), (2, .ref (am 0)), (1, .ref (ad2 0)), (0, .ref b)] → W p l e room_1 s m #[Value.ref b] below meth c H1 locs1 (19 + T1.1 + (j + 1)) (38467 + sg T1 + 6 * (j + 1)) Q (F0 m 2439 ls1 [])) : W p l e room_1 s m #[Value.ref b] below meth c H locs (19 + T.1 + j) (38467 + sg T + 6 * j) Q (F0 m 1005 ls []) := by
  have E : cE p c cL_law s m #[Value.ref b] lw_tbl D RL (CT cI cJ cZ cMic cSrc cSt cAI cAJ ++ [(cD, .double)]) := ⟨hx, hb, hts, hown, hK⟩
  have hA : ∀ q : Nat, s.heap.size ≤ q → s.heap.size ≤ q := fun _ h => h
  have h0T : 0 < T.1 := Nat.lt_of_lt_of_le (by decide) hV.1.2.2
  have h0s : T.2.1 0 = (11, 0) := hV.2.1 0 ⟨by decide, by decide +kernel, by decide +kernel⟩
  refine lv_aload_n hx hb dL_law_1005 rfl (lv_at hl 4 rfl) ?_
  refine lv_aload_n hx hb dL_law_1006 rfl (lv_at hl 5 rfl) ?_
  refine lv_iload hx hb dL_law_1007 (lv_at hl 0 rfl) ?_
  refine lv_iconst (v := 1) hx hb dL_law_1009 (by decide) ?_
  refine lv_iadd hx hb dL_law_1010 ?_
  refine lv_to (y := nI (i + 1)) (nI_add i 1) ?_
  refine va_sld hx hb hX0 hbl (Nat.not_le.mpr hbl) G.2.2 (i := nI (i + 1)) (vp_in_nI (n := i + 1) (N := L) (by omega) (by omega)) dL_law_1011 ?_
  refine lv_to (y := xs (i + 1)) (congrArg xs (nI_clamp (by omega))) ?_
  refine lv_aload_n hx hb dL_law_1012 rfl (lv_at hl 5 rfl) ?_
  refine lv_iload hx hb dL_law_1013 (lv_at hl 0 rfl) ?_
  refine lv_iconst (v := 2) hx hb dL_law_1015 (by decide) ?_
  refine lv_iadd hx hb dL_law_1016 ?_
  refine lv_to (y := nI (i + 2)) (nI_add i 2) ?_
  refine va_sld hx hb hX0 hbl (Nat.not_le.mpr hbl) G.2.2 (i := nI (i + 2)) (vp_in_nI (n := i + 2) (N := L) (by omega) (by omega)) dL_law_1017 ?_
  refine lv_to (y := xs (i + 2)) (congrArg xs (nI_clamp (by omega))) ?_
  refine lv_aload_n hx hb dL_law_1018 rfl (lv_at hl 2 rfl) ?_
  obtain ⟨⟨k1, r1, T1⟩, hg, hc⟩ := cs_X11_powerAt T 0 (xs (i + 1)) (xs (i + 2)) hV (by decide +kernel)
  have hV1 : IV aR0 1586 aK1 aK2 T1 := hc.1.1
  have hg1 := s_X11_powerAt hg
  have hg2 := sg_le hg1
  have hg3 := hg1.1
  have hk := hV1.2.2.2.2.2.2
  have hrc1 := hg1.2.2 hrc
  have hr0 := a_room
  refine l_v (h0 := s.heap.size) (As := [.ref (ad 0), .int (xs (i + 1)), .int (xs (i + 2)), .ref aj]) (rest := []) E G hA hX hN (fun _ h => h) hTS hml (v_powerAt l hst D s.heap.size ad T 0 (xs (i + 1)) (xs (i + 2)) aj f hg hrc h0T h0s) (vx_cwSW 4 hts (glA (L := [Cond.methodLink RL 277 yL_powerAt, Cond.static yL_powerAt, Cond.initialized RL]) (gl_in [(6, 10), (6, 11), (1, 0)] (by decide +kernel) (by decide +kernel)) ⟨(t_of [Cond.codeWith yL_powerAt cL_powerAt 5 (some .int) [(0, 9, 12, 21), (0, 9, 16, 15)]] [(6, 12)] (by decide +kernel) _ List.mem_cons_self), List.all_eq_true.mp (by decide +kernel : [Cond.codeWith yL_powerAt cL_powerAt 5 (some .int) [(0, 9, 12, 21), (0, 9, 16, 15)]].all goodWord = true) _ List.mem_cons_self⟩) rfl rfl rfl (by decide +kernel) ⟨Nat.le_of_ble_eq_true rfl, Nat.le_of_ble_eq_true rfl⟩) rfl hl.1 rfl (lv_room (Nat.le_of_ble_eq_true rfl)) dL_law_1019 ⟨by show _ ≤ 601024; omega, by show _ ≤ 7293034; omega⟩ ?_
  intro ad2 H locs had G
  rw [← had 0 h0T] at hl
  refine lv_istore (lv' := [(6, .int (vck 1 0 2 k1)), (5, .int (nI i)), (4, .ref ae), (3, .ref aj), (2, .ref (am 0)), (1, .ref (ad2 0)), (0, .ref b)]) hx hb dL_law_1022 hl (by decide) rfl (fun ls hl => ?_)
  refine lv_aload_n hx hb dL_law_1024 rfl (lv_at hl 4 rfl) ?_
  refine lv_aload_n hx hb dL_law_1025 rfl (lv_at hl 6 rfl) ?_
  refine lv_iload hx hb dL_law_1026 (lv_at hl 1 rfl) ?_
  refine lv_iconst (v := 1) hx hb dL_law_1028 (by decide) ?_
  refine lv_iadd hx hb dL_law_1029 ?_
  refine lv_to (y := nI (i + 1)) (nI_add i 1) ?_
  refine va_sld hx hb hX0 hbl (Nat.not_le.mpr hbl) G.2.2 (i := nI (i + 1)) (vp_in_nI (n := i + 1) (N := L) (by omega) (by omega)) dL_law_1030 ?_
  refine lv_to (y := xs (i + 1)) (congrArg xs (nI_clamp (by omega))) ?_
  refine lv_aload_n hx hb dL_law_1031 rfl (lv_at hl 6 rfl) ?_
  refine lv_iload hx hb dL_law_1032 (lv_at hl 1 rfl) ?_
  refine lv_iconst (v := 2) hx hb dL_law_1034 (by decide) ?_
  refine lv_iadd hx hb dL_law_1035 ?_
  refine lv_to (y := nI (i + 2)) (nI_add i 2) ?_
  refine va_sld hx hb hX0 hbl (Nat.not_le.mpr hbl) G.2.2 (i := nI (i + 2)) (vp_in_nI (n := i + 2) (N := L) (by omega) (by omega)) dL_law_1036 ?_
  refine lv_to (y := xs (i + 2)) (congrArg xs (nI_clamp (by omega))) ?_
  obtain ⟨⟨r2, S1⟩, hf, hj⟩ := sj_powerAt Sm (xs (i + 1)) (xs (i + 2)) hJ
  have hJ1 : JJ S1 := hj
  refine y_ml (As := [.int (xs (i + 1)), .int (xs (i + 2))]) (rest := []) E G hA hX.2.2.2.2 hml (tr_powerAt l D cI cJ cZ am Sm (xs (i + 1)) (xs (i + 2)) hf) (cwV 2 hts (glM (L := [Cond.methodLink RL 279 yX12_powerAt, Cond.instanceMethod yX12_powerAt, Cond.selects RX12 yX12_powerAt yX12_powerAt, Cond.initialized RX12]) (gl_in [(9, 172), (9, 173), (9, 174), (1, 14)] (by decide +kernel) (by decide +kernel)) ⟨(t_of [Cond.code yX12_powerAt cX12_powerAt 3 (some .long)] [(9, 175)] (by decide +kernel) _ List.mem_cons_self), List.all_eq_true.mp (by decide +kernel : [Cond.code yX12_powerAt cX12_powerAt 3 (some .long)].all goodWord = true) _ List.mem_cons_self⟩) rfl rfl rfl (by decide +kernel) ⟨Nat.le_of_ble_eq_true rfl, Nat.le_of_ble_eq_true rfl⟩) rfl hl.1 rfl (lv_room (Nat.le_of_ble_eq_true rfl)) dL_law_1037 ⟨by show _ ≤ 601024; omega, by show _ ≤ 7293034; omega⟩ (fun H locs G => ?_)
  refine lv_lstore (lv' := [(7, .long r2), (6, .int (vck 1 0 2 k1)), (5, .int (nI i)), (4, .ref ae), (3, .ref aj), (2, .ref (am 0)), (1, .ref (ad2 0)), (0, .ref b)]) hx hb dL_law_1040 hl (by decide) rfl (fun ls hl => ?_)
  refine lv_goto (tgt := 2439) hx hb dL_law_1042 (by decide) ?_
  have hl := lv_sub hl [2, 3, 4, 5, 6, 7] rfl
  refine W.widen (k := 19 + T1.1 + (j + 1)) (n := 38467 + sg T1 + 6 * (j + 1)) (by omega) (by omega) ?_
  exact kk ad2 (vfJ k1 f r1) g H locs ls hg hf (had 0 h0T) hV1 hrc1 hJ1 G hl
end
section
/-! 17d.arm3.lean.txt -/
theorem dL_law_1045 : decode cL_law 1045 = .ok (.aload_n 1, 1) := de_43 (lb_65 (j := 5) (b := 43) rfl)
theorem dL_law_1046 : decode cL_law 1046 = .ok (.aload_n 3, 1) := de_45 (lb_65 (j := 6) (b := 45) rfl)
theorem dL_law_1047 : decode cL_law 1047 = .ok (.invokestatic 280, 3) := de_184 (lb_65 (j := 7) (b := 184) rfl) (lb_65 (j := 8) (b := 1) rfl) (lb_65 (j := 9) (b := 24) rfl) rfl
theorem dL_law_1050 : decode cL_law 1050 = .ok (.istore 6, 2) := de_54 (lb_65 (j := 10) (b := 54) rfl) (lb_65 (j := 11) (b := 6) rfl) rfl
theorem dL_law_1052 : decode cL_law 1052 = .ok (.aload_n 2, 1) := de_44 (lb_65 (j := 12) (b := 44) rfl)
theorem dL_law_1053 : decode cL_law 1053 = .ok (.invokevirtual 283, 3) := de_182 (lb_65 (j := 13) (b := 182) rfl) (lb_65 (j := 14) (b := 1) rfl) (lb_65 (j := 15) (b := 27) rfl) rfl
theorem dL_law_1056 : decode cL_law 1056 = .ok (.istore 7, 2) := de_54 (lb_66 (j := 0) (b := 54) rfl) (lb_66 (j := 1) (b := 7) rfl) rfl
theorem dL_law_1058 : decode cL_law 1058 = .ok (.goto 1381, 3) := de_167 (lb_66 (j := 2) (b := 167) rfl) (lb_66 (j := 3) (b := 5) rfl) (lb_66 (j := 4) (b := 101) rfl) (by decide +kernel)
theorem dL_law_1061 : decode cL_law 1061 = .ok (.aload_n 1, 1) := de_43 (lb_66 (j := 5) (b := 43) rfl)
theorem dL_law_1062 : decode cL_law 1062 = .ok (.aload_n 3, 1) := de_45 (lb_66 (j := 6) (b := 45) rfl)
theorem dL_law_1063 : decode cL_law 1063 = .ok (.invokestatic 284, 3) := de_184 (lb_66 (j := 7) (b := 184) rfl) (lb_66 (j := 8) (b := 1) rfl) (lb_66 (j := 9) (b := 28) rfl) rfl
theorem dL_law_1066 : decode cL_law 1066 = .ok (.istore 6, 2) := de_54 (lb_66 (j := 10) (b := 54) rfl) (lb_66 (j := 11) (b := 6) rfl) rfl
theorem dL_law_1068 : decode cL_law 1068 = .ok (.aload_n 2, 1) := de_44 (lb_66 (j := 12) (b := 44) rfl)
theorem dL_law_1069 : decode cL_law 1069 = .ok (.invokevirtual 286, 3) := de_182 (lb_66 (j := 13) (b := 182) rfl) (lb_66 (j := 14) (b := 1) rfl) (lb_66 (j := 15) (b := 30) rfl) rfl
theorem dL_law_1072 : decode cL_law 1072 = .ok (.lstore 7, 2) := de_55 (lb_67 (j := 0) (b := 55) rfl) (lb_67 (j := 1) (b := 7) rfl) rfl
theorem dL_law_1074 : decode cL_law 1074 = .ok (.goto 1365, 3) := de_167 (lb_67 (j := 2) (b := 167) rfl) (lb_67 (j := 3) (b := 5) rfl) (lb_67 (j := 4) (b := 85) rfl) (by decide +kernel)
theorem dL_law_1077 : decode cL_law 1077 = .ok (.aload_n 1, 1) := de_43 (lb_67 (j := 5) (b := 43) rfl)
theorem dL_law_1078 : decode cL_law 1078 = .ok (.aload_n 3, 1) := de_45 (lb_67 (j := 6) (b := 45) rfl)
theorem dL_law_1079 : decode cL_law 1079 = .ok (.invokestatic 287, 3) := de_184 (lb_67 (j := 7) (b := 184) rfl) (lb_67 (j := 8) (b := 1) rfl) (lb_67 (j := 9) (b := 31) rfl) rfl
theorem dL_law_1082 : decode cL_law 1082 = .ok (.istore 6, 2) := de_54 (lb_67 (j := 10) (b := 54) rfl) (lb_67 (j := 11) (b := 6) rfl) rfl
theorem dL_law_1084 : decode cL_law 1084 = .ok (.aload_n 2, 1) := de_44 (lb_67 (j := 12) (b := 44) rfl)
theorem dL_law_1085 : decode cL_law 1085 = .ok (.invokevirtual 289, 3) := de_182 (lb_67 (j := 13) (b := 182) rfl) (lb_67 (j := 14) (b := 1) rfl) (lb_67 (j := 15) (b := 33) rfl) rfl
theorem dL_law_1088 : decode cL_law 1088 = .ok (.lstore 7, 2) := de_55 (lb_68 (j := 0) (b := 55) rfl) (lb_68 (j := 1) (b := 7) rfl) rfl
theorem dL_law_1090 : decode cL_law 1090 = .ok (.goto 1349, 3) := de_167 (lb_68 (j := 2) (b := 167) rfl) (lb_68 (j := 3) (b := 5) rfl) (lb_68 (j := 4) (b := 69) rfl) (by decide +kernel)
theorem dL_law_1093 : decode cL_law 1093 = .ok (.aload_n 1, 1) := de_43 (lb_68 (j := 5) (b := 43) rfl)
theorem dL_law_1094 : decode cL_law 1094 = .ok (.aload_n 3, 1) := de_45 (lb_68 (j := 6) (b := 45) rfl)
theorem dL_law_1095 : decode cL_law 1095 = .ok (.invokestatic 290, 3) := de_184 (lb_68 (j := 7) (b := 184) rfl) (lb_68 (j := 8) (b := 1) rfl) (lb_68 (j := 9) (b := 34) rfl) rfl
theorem dL_law_1098 : decode cL_law 1098 = .ok (.istore 6, 2) := de_54 (lb_68 (j := 10) (b := 54) rfl) (lb_68 (j := 11) (b := 6) rfl) rfl
theorem dL_law_1100 : decode cL_law 1100 = .ok (.aload_n 2, 1) := de_44 (lb_68 (j := 12) (b := 44) rfl)
theorem dL_law_1101 : decode cL_law 1101 = .ok (.invokevirtual 292, 3) := de_182 (lb_68 (j := 13) (b := 182) rfl) (lb_68 (j := 14) (b := 1) rfl) (lb_68 (j := 15) (b := 36) rfl) rfl
theorem dL_law_1104 : decode cL_law 1104 = .ok (.istore 7, 2) := de_54 (lb_69 (j := 0) (b := 54) rfl) (lb_69 (j := 1) (b := 7) rfl) rfl
theorem dL_law_1106 : decode cL_law 1106 = .ok (.goto 1333, 3) := de_167 (lb_69 (j := 2) (b := 167) rfl) (lb_69 (j := 3) (b := 5) rfl) (lb_69 (j := 4) (b := 53) rfl) (by decide +kernel)
theorem dL_law_1109 : decode cL_law 1109 = .ok (.aload_n 1, 1) := de_43 (lb_69 (j := 5) (b := 43) rfl)
theorem dL_law_1110 : decode cL_law 1110 = .ok (.aload_n 0, 1) := de_42 (lb_69 (j := 6) (b := 42) rfl)
theorem dL_law_1111 : decode cL_law 1111 = .ok (.iload 5, 2) := de_21 (lb_69 (j := 7) (b := 21) rfl) (lb_69 (j := 8) (b := 5) rfl) rfl
theorem dL_law_1113 : decode cL_law 1113 = .ok (.iconst 1, 1) := de_4 (lb_69 (j := 9) (b := 4) rfl)
theorem dL_law_1114 : decode cL_law 1114 = .ok (.iadd, 1) := de_96 (lb_69 (j := 10) (b := 96) rfl)
theorem dL_law_1115 : decode cL_law 1115 = .ok (.iaload, 1) := de_46 (lb_69 (j := 11) (b := 46) rfl)
theorem dL_law_1116 : decode cL_law 1116 = .ok (.aload_n 3, 1) := de_45 (lb_69 (j := 12) (b := 45) rfl)
theorem dL_law_1117 : decode cL_law 1117 = .ok (.invokestatic 293, 3) := de_184 (lb_69 (j := 13) (b := 184) rfl) (lb_69 (j := 14) (b := 1) rfl) (lb_69 (j := 15) (b := 37) rfl) rfl
theorem dL_law_1120 : decode cL_law 1120 = .ok (.istore 6, 2) := de_54 (lb_70 (j := 0) (b := 54) rfl) (lb_70 (j := 1) (b := 6) rfl) rfl
theorem dL_law_1122 : decode cL_law 1122 = .ok (.aload_n 2, 1) := de_44 (lb_70 (j := 2) (b := 44) rfl)
theorem dL_law_1123 : decode cL_law 1123 = .ok (.aload_n 0, 1) := de_42 (lb_70 (j := 3) (b := 42) rfl)
theorem dL_law_1124 : decode cL_law 1124 = .ok (.iload 5, 2) := de_21 (lb_70 (j := 4) (b := 21) rfl) (lb_70 (j := 5) (b := 5) rfl) rfl
theorem dL_law_1126 : decode cL_law 1126 = .ok (.iconst 1, 1) := de_4 (lb_70 (j := 6) (b := 4) rfl)
theorem dL_law_1127 : decode cL_law 1127 = .ok (.iadd, 1) := de_96 (lb_70 (j := 7) (b := 96) rfl)
theorem dL_law_1128 : decode cL_law 1128 = .ok (.iaload, 1) := de_46 (lb_70 (j := 8) (b := 46) rfl)
theorem dL_law_1129 : decode cL_law 1129 = .ok (.invokevirtual 295, 3) := de_182 (lb_70 (j := 9) (b := 182) rfl) (lb_70 (j := 10) (b := 1) rfl) (lb_70 (j := 11) (b := 39) rfl) rfl
theorem dL_law_1132 : decode cL_law 1132 = .ok (.istore 7, 2) := de_54 (lb_70 (j := 12) (b := 54) rfl) (lb_70 (j := 13) (b := 7) rfl) rfl
theorem dL_law_1134 : decode cL_law 1134 = .ok (.goto 1305, 3) := de_167 (lb_70 (j := 14) (b := 167) rfl) (lb_70 (j := 15) (b := 5) rfl) (lb_71 (j := 0) (b := 25) rfl) (by decide +kernel)
theorem dL_law_1137 : decode cL_law 1137 = .ok (.aload_n 1, 1) := de_43 (lb_71 (j := 1) (b := 43) rfl)
theorem dL_law_1138 : decode cL_law 1138 = .ok (.aload_n 0, 1) := de_42 (lb_71 (j := 2) (b := 42) rfl)
theorem dL_law_1139 : decode cL_law 1139 = .ok (.iload 5, 2) := de_21 (lb_71 (j := 3) (b := 21) rfl) (lb_71 (j := 4) (b := 5) rfl) rfl
theorem dL_law_1141 : decode cL_law 1141 = .ok (.iconst 1, 1) := de_4 (lb_71 (j := 5) (b := 4) rfl)
theorem dL_law_1142 : decode cL_law 1142 = .ok (.iadd, 1) := de_96 (lb_71 (j := 6) (b := 96) rfl)
theorem dL_law_1143 : decode cL_law 1143 = .ok (.iaload, 1) := de_46 (lb_71 (j := 7) (b := 46) rfl)
theorem dL_law_1144 : decode cL_law 1144 = .ok (.aload_n 3, 1) := de_45 (lb_71 (j := 8) (b := 45) rfl)
theorem dL_law_1145 : decode cL_law 1145 = .ok (.invokestatic 296, 3) := de_184 (lb_71 (j := 9) (b := 184) rfl) (lb_71 (j := 10) (b := 1) rfl) (lb_71 (j := 11) (b := 40) rfl) rfl
theorem dL_law_1148 : decode cL_law 1148 = .ok (.istore 6, 2) := de_54 (lb_71 (j := 12) (b := 54) rfl) (lb_71 (j := 13) (b := 6) rfl) rfl
theorem dL_law_1150 : decode cL_law 1150 = .ok (.aload_n 2, 1) := de_44 (lb_71 (j := 14) (b := 44) rfl)
theorem dL_law_1151 : decode cL_law 1151 = .ok (.aload_n 0, 1) := de_42 (lb_71 (j := 15) (b := 42) rfl)
theorem dL_law_1152 : decode cL_law 1152 = .ok (.iload 5, 2) := de_21 (lb_72 (j := 0) (b := 21) rfl) (lb_72 (j := 1) (b := 5) rfl) rfl
theorem dL_law_1154 : decode cL_law 1154 = .ok (.iconst 1, 1) := de_4 (lb_72 (j := 2) (b := 4) rfl)
theorem dL_law_1155 : decode cL_law 1155 = .ok (.iadd, 1) := de_96 (lb_72 (j := 3) (b := 96) rfl)
theorem dL_law_1156 : decode cL_law 1156 = .ok (.iaload, 1) := de_46 (lb_72 (j := 4) (b := 46) rfl)
theorem dL_law_1157 : decode cL_law 1157 = .ok (.invokevirtual 298, 3) := de_182 (lb_72 (j := 5) (b := 182) rfl) (lb_72 (j := 6) (b := 1) rfl) (lb_72 (j := 7) (b := 42) rfl) rfl
theorem dL_law_1160 : decode cL_law 1160 = .ok (.istore 7, 2) := de_54 (lb_72 (j := 8) (b := 54) rfl) (lb_72 (j := 9) (b := 7) rfl) rfl
theorem dL_law_1162 : decode cL_law 1162 = .ok (.goto 1277, 3) := de_167 (lb_72 (j := 10) (b := 167) rfl) (lb_72 (j := 11) (b := 4) rfl) (lb_72 (j := 12) (b := 253) rfl) (by decide +kernel)
theorem dL_law_1165 : decode cL_law 1165 = .ok (.aload_n 1, 1) := de_43 (lb_72 (j := 13) (b := 43) rfl)
theorem dL_law_1166 : decode cL_law 1166 = .ok (.aload_n 0, 1) := de_42 (lb_72 (j := 14) (b := 42) rfl)
theorem dL_law_1167 : decode cL_law 1167 = .ok (.iload 5, 2) := de_21 (lb_72 (j := 15) (b := 21) rfl) (lb_73 (j := 0) (b := 5) rfl) rfl
theorem dL_law_1169 : decode cL_law 1169 = .ok (.iconst 1, 1) := de_4 (lb_73 (j := 1) (b := 4) rfl)
theorem dL_law_1170 : decode cL_law 1170 = .ok (.iadd, 1) := de_96 (lb_73 (j := 2) (b := 96) rfl)
theorem dL_law_1171 : decode cL_law 1171 = .ok (.iaload, 1) := de_46 (lb_73 (j := 3) (b := 46) rfl)
theorem dL_law_1172 : decode cL_law 1172 = .ok (.aload_n 3, 1) := de_45 (lb_73 (j := 4) (b := 45) rfl)
theorem dL_law_1173 : decode cL_law 1173 = .ok (.invokestatic 299, 3) := de_184 (lb_73 (j := 5) (b := 184) rfl) (lb_73 (j := 6) (b := 1) rfl) (lb_73 (j := 7) (b := 43) rfl) rfl
theorem dL_law_1176 : decode cL_law 1176 = .ok (.istore 6, 2) := de_54 (lb_73 (j := 8) (b := 54) rfl) (lb_73 (j := 9) (b := 6) rfl) rfl
theorem dL_law_1178 : decode cL_law 1178 = .ok (.aload_n 2, 1) := de_44 (lb_73 (j := 10) (b := 44) rfl)
theorem dL_law_1179 : decode cL_law 1179 = .ok (.aload_n 0, 1) := de_42 (lb_73 (j := 11) (b := 42) rfl)
theorem dL_law_1180 : decode cL_law 1180 = .ok (.iload 5, 2) := de_21 (lb_73 (j := 12) (b := 21) rfl) (lb_73 (j := 13) (b := 5) rfl) rfl
theorem dL_law_1182 : decode cL_law 1182 = .ok (.iconst 1, 1) := de_4 (lb_73 (j := 14) (b := 4) rfl)
theorem dL_law_1183 : decode cL_law 1183 = .ok (.iadd, 1) := de_96 (lb_73 (j := 15) (b := 96) rfl)
theorem dL_law_1184 : decode cL_law 1184 = .ok (.iaload, 1) := de_46 (lb_74 (j := 0) (b := 46) rfl)
theorem dL_law_1185 : decode cL_law 1185 = .ok (.invokevirtual 301, 3) := de_182 (lb_74 (j := 1) (b := 182) rfl) (lb_74 (j := 2) (b := 1) rfl) (lb_74 (j := 3) (b := 45) rfl) rfl
theorem dL_law_1188 : decode cL_law 1188 = .ok (.lstore 7, 2) := de_55 (lb_74 (j := 4) (b := 55) rfl) (lb_74 (j := 5) (b := 7) rfl) rfl
theorem dL_law_1190 : decode cL_law 1190 = .ok (.goto 1249, 3) := de_167 (lb_74 (j := 6) (b := 167) rfl) (lb_74 (j := 7) (b := 4) rfl) (lb_74 (j := 8) (b := 225) rfl) (by decide +kernel)
theorem dL_law_1193 : decode cL_law 1193 = .ok (.aload_n 1, 1) := de_43 (lb_74 (j := 9) (b := 43) rfl)
theorem dL_law_1194 : decode cL_law 1194 = .ok (.aload_n 0, 1) := de_42 (lb_74 (j := 10) (b := 42) rfl)
theorem dL_law_1195 : decode cL_law 1195 = .ok (.iload 5, 2) := de_21 (lb_74 (j := 11) (b := 21) rfl) (lb_74 (j := 12) (b := 5) rfl) rfl
theorem dL_law_1197 : decode cL_law 1197 = .ok (.iconst 1, 1) := de_4 (lb_74 (j := 13) (b := 4) rfl)
theorem dL_law_1198 : decode cL_law 1198 = .ok (.iadd, 1) := de_96 (lb_74 (j := 14) (b := 96) rfl)
theorem dL_law_1199 : decode cL_law 1199 = .ok (.iaload, 1) := de_46 (lb_74 (j := 15) (b := 46) rfl)
theorem dL_law_1200 : decode cL_law 1200 = .ok (.aload_n 3, 1) := de_45 (lb_75 (j := 0) (b := 45) rfl)
theorem dL_law_1201 : decode cL_law 1201 = .ok (.invokestatic 302, 3) := de_184 (lb_75 (j := 1) (b := 184) rfl) (lb_75 (j := 2) (b := 1) rfl) (lb_75 (j := 3) (b := 46) rfl) rfl
theorem dL_law_1204 : decode cL_law 1204 = .ok (.istore 6, 2) := de_54 (lb_75 (j := 4) (b := 54) rfl) (lb_75 (j := 5) (b := 6) rfl) rfl
theorem dL_law_1206 : decode cL_law 1206 = .ok (.aload_n 2, 1) := de_44 (lb_75 (j := 6) (b := 44) rfl)
theorem dL_law_1207 : decode cL_law 1207 = .ok (.aload_n 0, 1) := de_42 (lb_75 (j := 7) (b := 42) rfl)
theorem dL_law_1208 : decode cL_law 1208 = .ok (.iload 5, 2) := de_21 (lb_75 (j := 8) (b := 21) rfl) (lb_75 (j := 9) (b := 5) rfl) rfl
theorem dL_law_1210 : decode cL_law 1210 = .ok (.iconst 1, 1) := de_4 (lb_75 (j := 10) (b := 4) rfl)
theorem dL_law_1211 : decode cL_law 1211 = .ok (.iadd, 1) := de_96 (lb_75 (j := 11) (b := 96) rfl)
theorem dL_law_1212 : decode cL_law 1212 = .ok (.iaload, 1) := de_46 (lb_75 (j := 12) (b := 46) rfl)
theorem dL_law_1213 : decode cL_law 1213 = .ok (.invokevirtual 304, 3) := de_182 (lb_75 (j := 13) (b := 182) rfl) (lb_75 (j := 14) (b := 1) rfl) (lb_75 (j := 15) (b := 48) rfl) rfl
theorem dL_law_1216 : decode cL_law 1216 = .ok (.istore 7, 2) := de_54 (lb_76 (j := 0) (b := 54) rfl) (lb_76 (j := 1) (b := 7) rfl) rfl
theorem dL_law_1218 : decode cL_law 1218 = .ok (.goto 1221, 3) := de_167 (lb_76 (j := 2) (b := 167) rfl) (lb_76 (j := 3) (b := 4) rfl) (lb_76 (j := 4) (b := 197) rfl) (by decide +kernel)
set_option maxHeartbeats 4000000 in
set_option maxRecDepth 100000 in
theorem y_a24 {p : Program} {e : Env} {s : State} {m : MethodId} {below : List Frame} {meth : Method} {c : Code} (l : Launch) (hst : l.stackTraces = false) {b L : Nat} {xs : Nat → Int32} (hx : p.tables.exec = Jvm.exec) (hb : c.code = code) (hml : c.maxLocals = 9) (hown : s.vm.findClass RL = some m.cls) (hts : ∀ w ∈ lw_tbl, w.before #[Value.ref b] s = true) (hX0 : va_X b L xs s s.heap) (hbl : b < s.heap.size) (hX : xT (fun q => s.heap.size ≤ q) s) (hN : nC s) (hTS : sAll s.heap.size s) {D : va_G} {cI cJ cZ cMic cSrc cSt cAI cAJ cD : ClassId} (hK : va_K D vwCl (CT cI cJ cZ cMic cSrc cSt cAI cAJ ++ [(cD, .double)]) s) {Q : State → Prop} {i j : Nat} (hi : i + 6 ≤ L) (hL : L ≤ 3072) (hj : j < 512) {aj ae : Nat} {ad am : Nat → Nat} {T : AT} {Sm : MS} {f : Nat → Int64} {g : Nat → UInt64} {ls : Array Slot} {H : Heap} {locs : List Loc} (hV : IV aR0 1586 aK1 aK2 T) (hrc : RC T) (hJ : JJ Sm) (G : gL cI cJ cZ cMic cSrc cSt cAI cAJ D ad (fun q => s.heap.size ≤ q) s.heap H locs T (oJ aj cJ f :: oD ae cD g :: MW cI cJ cZ am Sm)) (hl : lv_has ls 9 [(5, .int (nI i)), (4, .ref ae), (3, .ref aj), (2, .ref (am 0)), (1, .ref (ad 0)), (0, .ref b)]) (kk : ∀ {k1 : Nat} {r1 : Int32} {T1 : AT} {r2 : Int32} {S1 : MS} (ad2 : Nat → Nat) (f1 : Nat → Int64) (g1 : Nat → UInt64) (H1 : Heap) (locs1 : List Loc) (ls1 : Array Slot), g_X11_best T 0 = some (k1, r1, T1) → fr_best Sm = some (r2, S1) → ad2 0 = ad 0 → IV aR0 1586 aK1 aK2 T1 → RC T1 → JJ S1 → gL cI cJ cZ cMic cSrc cSt cAI cAJ D ad2 (fun q => s.heap.size ≤ q) s.heap H1 locs1 T1 (oJ aj cJ f1 :: oD ae cD g1 :: MW cI cJ cZ am S1) → lv_has ls1 9 [(5, .int (nI i)), (4, .ref ae), (3, .ref aj), (2, .ref (am 0)), (1, .ref (ad2 0)), (0, .ref b)] → W p l e room_1 s m #[Value.ref b] below meth c H1 locs1 (19 + T1.1 + (j + 1)) (38467 + sg T1 + 6 * (j + 1)) Q (F0 m 2439 ls1 [])) : W p l e room_1 s m #[Value.ref b] below meth c H locs (19 + T.1 + j) (38467 + sg T + 6 * j) Q (F0 m 1045 ls []) := by
  have E : cE p c cL_law s m #[Value.ref b] lw_tbl D RL (CT cI cJ cZ cMic cSrc cSt cAI cAJ ++ [(cD, .double)]) := ⟨hx, hb, hts, hown, hK⟩
  have hA : ∀ q : Nat, s.heap.size ≤ q → s.heap.size ≤ q := fun _ h => h
  have h0T : 0 < T.1 := Nat.lt_of_lt_of_le (by decide) hV.1.2.2
  have h0s : T.2.1 0 = (11, 0) := hV.2.1 0 ⟨by decide, by decide +kernel, by decide +kernel⟩
  refine lv_aload_n hx hb dL_law_1045 rfl (lv_at hl 4 rfl) ?_
  refine lv_aload_n hx hb dL_law_1046 rfl (lv_at hl 2 rfl) ?_
  obtain ⟨⟨k1, r1, T1⟩, hg, hc⟩ := cs_X11_best T 0 hV (by decide +kernel)
  have hV1 : IV aR0 1586 aK1 aK2 T1 := hc.1.1
  have hg1 := s_X11_best hg
  have hg2 := sg_le hg1
  have hg3 := hg1.1
  have hk := hV1.2.2.2.2.2.2
  have hrc1 := hg1.2.2 hrc
  have hr0 := a_room
  refine l_v (h0 := s.heap.size) (As := [.ref (ad 0), .ref aj]) (rest := []) E G hA hX hN (fun _ h => h) hTS hml (v_best l hst D s.heap.size ad T 0  aj f hg hrc h0T h0s) (vx_cwSW 2 hts (glA (L := [Cond.methodLink RL 280 yL_best, Cond.static yL_best, Cond.initialized RL]) (gl_in [(6, 23), (6, 24), (1, 0)] (by decide +kernel) (by decide +kernel)) ⟨(t_of [Cond.codeWith yL_best cL_best 3 (some .int) [(0, 8, 11, 21)]] [(6, 25)] (by decide +kernel) _ List.mem_cons_self), List.all_eq_true.mp (by decide +kernel : [Cond.codeWith yL_best cL_best 3 (some .int) [(0, 8, 11, 21)]].all goodWord = true) _ List.mem_cons_self⟩) rfl rfl rfl (by decide +kernel) ⟨Nat.le_of_ble_eq_true rfl, Nat.le_of_ble_eq_true rfl⟩) rfl hl.1 rfl (lv_room (Nat.le_of_ble_eq_true rfl)) dL_law_1047 ⟨by show _ ≤ 601024; omega, by show _ ≤ 7293034; omega⟩ ?_
  intro ad2 H locs had G
  rw [← had 0 h0T] at hl
  refine lv_istore (lv' := [(6, .int (vck 1 0 0 k1)), (5, .int (nI i)), (4, .ref ae), (3, .ref aj), (2, .ref (am 0)), (1, .ref (ad2 0)), (0, .ref b)]) hx hb dL_law_1050 hl (by decide) rfl (fun ls hl => ?_)
  refine lv_aload_n hx hb dL_law_1052 rfl (lv_at hl 4 rfl) ?_
  obtain ⟨⟨r2, S1⟩, hf, hj⟩ := sj_best Sm hJ
  have hJ1 : JJ S1 := hj
  refine y_mi (As := []) (rest := []) E G hA hX.2.2.2.2 hml (tr_best l D cI cJ cZ am Sm  hf) (cwV 0 hts (glM (L := [Cond.methodLink RL 283 yX12_best, Cond.instanceMethod yX12_best, Cond.selects RX12 yX12_best yX12_best, Cond.initialized RX12]) (gl_in [(9, 180), (9, 181), (9, 182), (1, 14)] (by decide +kernel) (by decide +kernel)) ⟨(t_of [Cond.code yX12_best cX12_best 1 (some .int)] [(9, 183)] (by decide +kernel) _ List.mem_cons_self), List.all_eq_true.mp (by decide +kernel : [Cond.code yX12_best cX12_best 1 (some .int)].all goodWord = true) _ List.mem_cons_self⟩) rfl rfl rfl (by decide +kernel) ⟨Nat.le_of_ble_eq_true rfl, Nat.le_of_ble_eq_true rfl⟩) rfl hl.1 rfl (lv_room (Nat.le_of_ble_eq_true rfl)) dL_law_1053 ⟨by show _ ≤ 601024; omega, by show _ ≤ 7293034; omega⟩ (fun H locs G => ?_)
  refine lv_istore (lv' := [(7, .int r2), (6, .int (vck 1 0 0 k1)), (5, .int (nI i)), (4, .ref ae), (3, .ref aj), (2, .ref (am 0)), (1, .ref (ad2 0)), (0, .ref b)]) hx hb dL_law_1056 hl (by decide) rfl (fun ls hl => ?_)
  refine lv_goto (tgt := 2439) hx hb dL_law_1058 (by decide) ?_
  have hl := lv_sub hl [2, 3, 4, 5, 6, 7] rfl
  refine W.widen (k := 19 + T1.1 + (j + 1)) (n := 38467 + sg T1 + 6 * (j + 1)) (by omega) (by omega) ?_
  exact kk ad2 (vfJ k1 f r1.toInt64) g H locs ls hg hf (had 0 h0T) hV1 hrc1 hJ1 G hl
set_option maxHeartbeats 4000000 in
set_option maxRecDepth 100000 in
theorem y_a25 {p : Program} {e : Env} {s : State} {m : MethodId} {below : List Frame} {meth : Method} {c : Code} (l : Launch) (hst : l.stackTraces = false) {b L : Nat} {xs : Nat → Int32} (hx : p.tables.exec = Jvm.exec) (hb : c.code = code) (hml : c.maxLocals = 9) (hown : s.vm.findClass RL = some m.cls) (hts : ∀ w ∈ lw_tbl, w.before #[Value.ref b] s = true) (hX0 : va_X b L xs s s.heap) (hbl : b < s.heap.size) (hX : xT (fun q => s.heap.size ≤ q) s) (hN : nC s) (hTS : sAll s.heap.size s) {D : va_G} {cI cJ cZ cMic cSrc cSt cAI cAJ cD : ClassId} (hK : va_K D vwCl (CT cI cJ cZ cMic cSrc cSt cAI cAJ ++ [(cD, .double)]) s) {Q : State → Prop} {i j : Nat} (hi : i + 6 ≤ L) (hL : L ≤ 3072) (hj : j < 512) {aj ae : Nat} {ad am : Nat → Nat} {T : AT} {Sm : MS} {f : Nat → Int64} {g : Nat → UInt64} {ls : Array Slot} {H : Heap} {locs : List Loc} (hV : IV aR0 1586 aK1 aK2 T) (hrc : RC T) (hJ : JJ Sm) (G : gL cI cJ cZ cMic cSrc cSt cAI cAJ D ad (fun q => s.heap.size ≤ q) s.heap H locs T (oJ aj cJ f :: oD ae cD g :: MW cI cJ cZ am Sm)) (hl : lv_has ls 9 [(5, .int (nI i)), (4, .ref ae), (3, .ref aj), (2, .ref (am 0)), (1, .ref (ad 0)), (0, .ref b)]) (kk : ∀ {k1 : Nat} {r1 : Int64} {T1 : AT} {r2 : Int64} {S1 : MS} (ad2 : Nat → Nat) (f1 : Nat → Int64) (g1 : Nat → UInt64) (H1 : Heap) (locs1 : List Loc) (ls1 : Array Slot), g_X11_bestPower T 0 = some (k1, r1, T1) → fr_bestPower Sm = some (r2, S1) → ad2 0 = ad 0 → IV aR0 1586 aK1 aK2 T1 → RC T1 → JJ S1 → gL cI cJ cZ cMic cSrc cSt cAI cAJ D ad2 (fun q => s.heap.size ≤ q) s.heap H1 locs1 T1 (oJ aj cJ f1 :: oD ae cD g1 :: MW cI cJ cZ am S1) → lv_has ls1 9 [(5, .int (nI i)), (4, .ref ae), (3, .ref aj), (2, .ref (am 0)), (1, .ref (ad2 0)), (0, .ref b)] → W p l e room_1 s m #[Value.ref b] below meth c H1 locs1 (19 + T1.1 + (j + 1)) (38467 + sg T1 + 6 * (j + 1)) Q (F0 m 2439 ls1 [])) : W p l e room_1 s m #[Value.ref b] below meth c H locs (19 + T.1 + j) (38467 + sg T + 6 * j) Q (F0 m 1061 ls []) := by
  have E : cE p c cL_law s m #[Value.ref b] lw_tbl D RL (CT cI cJ cZ cMic cSrc cSt cAI cAJ ++ [(cD, .double)]) := ⟨hx, hb, hts, hown, hK⟩
  have hA : ∀ q : Nat, s.heap.size ≤ q → s.heap.size ≤ q := fun _ h => h
  have h0T : 0 < T.1 := Nat.lt_of_lt_of_le (by decide) hV.1.2.2
  have h0s : T.2.1 0 = (11, 0) := hV.2.1 0 ⟨by decide, by decide +kernel, by decide +kernel⟩
  refine lv_aload_n hx hb dL_law_1061 rfl (lv_at hl 4 rfl) ?_
  refine lv_aload_n hx hb dL_law_1062 rfl (lv_at hl 2 rfl) ?_
  obtain ⟨⟨k1, r1, T1⟩, hg, hc⟩ := cs_X11_bestPower T 0 hV (by decide +kernel)
  have hV1 : IV aR0 1586 aK1 aK2 T1 := hc.1.1
  have hg1 := s_X11_bestPower hg
  have hg2 := sg_le hg1
  have hg3 := hg1.1
  have hk := hV1.2.2.2.2.2.2
  have hrc1 := hg1.2.2 hrc
  have hr0 := a_room
  refine l_v (h0 := s.heap.size) (As := [.ref (ad 0), .ref aj]) (rest := []) E G hA hX hN (fun _ h => h) hTS hml (v_bestPower l hst D s.heap.size ad T 0  aj f hg hrc h0T h0s) (vx_cwSW 2 hts (glA (L := [Cond.methodLink RL 284 yL_bestPower, Cond.static yL_bestPower, Cond.initialized RL]) (gl_in [(6, 30), (6, 31), (1, 0)] (by decide +kernel) (by decide +kernel)) ⟨(t_of [Cond.codeWith yL_bestPower cL_bestPower 3 (some .int) [(0, 7, 10, 21)]] [(6, 32)] (by decide +kernel) _ List.mem_cons_self), List.all_eq_true.mp (by decide +kernel : [Cond.codeWith yL_bestPower cL_bestPower 3 (some .int) [(0, 7, 10, 21)]].all goodWord = true) _ List.mem_cons_self⟩) rfl rfl rfl (by decide +kernel) ⟨Nat.le_of_ble_eq_true rfl, Nat.le_of_ble_eq_true rfl⟩) rfl hl.1 rfl (lv_room (Nat.le_of_ble_eq_true rfl)) dL_law_1063 ⟨by show _ ≤ 601024; omega, by show _ ≤ 7293034; omega⟩ ?_
  intro ad2 H locs had G
  rw [← had 0 h0T] at hl
  refine lv_istore (lv' := [(6, .int (vck 1 0 0 k1)), (5, .int (nI i)), (4, .ref ae), (3, .ref aj), (2, .ref (am 0)), (1, .ref (ad2 0)), (0, .ref b)]) hx hb dL_law_1066 hl (by decide) rfl (fun ls hl => ?_)
  refine lv_aload_n hx hb dL_law_1068 rfl (lv_at hl 4 rfl) ?_
  obtain ⟨⟨r2, S1⟩, hf, hj⟩ := sj_bestPower Sm hJ
  have hJ1 : JJ S1 := hj
  refine y_ml (As := []) (rest := []) E G hA hX.2.2.2.2 hml (tr_bestPower l D cI cJ cZ am Sm  hf) (cwV 0 hts (glM (L := [Cond.methodLink RL 286 yX12_bestPower, Cond.instanceMethod yX12_bestPower, Cond.selects RX12 yX12_bestPower yX12_bestPower, Cond.initialized RX12]) (gl_in [(9, 192), (9, 193), (9, 194), (1, 14)] (by decide +kernel) (by decide +kernel)) ⟨(t_of [Cond.code yX12_bestPower cX12_bestPower 1 (some .long)] [(9, 195)] (by decide +kernel) _ List.mem_cons_self), List.all_eq_true.mp (by decide +kernel : [Cond.code yX12_bestPower cX12_bestPower 1 (some .long)].all goodWord = true) _ List.mem_cons_self⟩) rfl rfl rfl (by decide +kernel) ⟨Nat.le_of_ble_eq_true rfl, Nat.le_of_ble_eq_true rfl⟩) rfl hl.1 rfl (lv_room (Nat.le_of_ble_eq_true rfl)) dL_law_1069 ⟨by show _ ≤ 601024; omega, by show _ ≤ 7293034; omega⟩ (fun H locs G => ?_)
  refine lv_lstore (lv' := [(7, .long r2), (6, .int (vck 1 0 0 k1)), (5, .int (nI i)), (4, .ref ae), (3, .ref aj), (2, .ref (am 0)), (1, .ref (ad2 0)), (0, .ref b)]) hx hb dL_law_1072 hl (by decide) rfl (fun ls hl => ?_)
  refine lv_goto (tgt := 2439) hx hb dL_law_1074 (by decide) ?_
  have hl := lv_sub hl [2, 3, 4, 5, 6, 7] rfl
  refine W.widen (k := 19 + T1.1 + (j + 1)) (n := 38467 + sg T1 + 6 * (j + 1)) (by omega) (by omega) ?_
  exact kk ad2 (vfJ k1 f r1) g H locs ls hg hf (had 0 h0T) hV1 hrc1 hJ1 G hl
set_option maxHeartbeats 4000000 in
set_option maxRecDepth 100000 in
theorem y_a26 {p : Program} {e : Env} {s : State} {m : MethodId} {below : List Frame} {meth : Method} {c : Code} (l : Launch) (hst : l.stackTraces = false) {b L : Nat} {xs : Nat → Int32} (hx : p.tables.exec = Jvm.exec) (hb : c.code = code) (hml : c.maxLocals = 9) (hown : s.vm.findClass RL = some m.cls) (hts : ∀ w ∈ lw_tbl, w.before #[Value.ref b] s = true) (hX0 : va_X b L xs s s.heap) (hbl : b < s.heap.size) (hX : xT (fun q => s.heap.size ≤ q) s) (hN : nC s) (hTS : sAll s.heap.size s) {D : va_G} {cI cJ cZ cMic cSrc cSt cAI cAJ cD : ClassId} (hK : va_K D vwCl (CT cI cJ cZ cMic cSrc cSt cAI cAJ ++ [(cD, .double)]) s) {Q : State → Prop} {i j : Nat} (hi : i + 6 ≤ L) (hL : L ≤ 3072) (hj : j < 512) {aj ae : Nat} {ad am : Nat → Nat} {T : AT} {Sm : MS} {f : Nat → Int64} {g : Nat → UInt64} {ls : Array Slot} {H : Heap} {locs : List Loc} (hV : IV aR0 1586 aK1 aK2 T) (hrc : RC T) (hJ : JJ Sm) (G : gL cI cJ cZ cMic cSrc cSt cAI cAJ D ad (fun q => s.heap.size ≤ q) s.heap H locs T (oJ aj cJ f :: oD ae cD g :: MW cI cJ cZ am Sm)) (hl : lv_has ls 9 [(5, .int (nI i)), (4, .ref ae), (3, .ref aj), (2, .ref (am 0)), (1, .ref (ad 0)), (0, .ref b)]) (kk : ∀ {k1 : Nat} {r1 : Int64} {T1 : AT} {r2 : Int64} {S1 : MS} (ad2 : Nat → Nat) (f1 : Nat → Int64) (g1 : Nat → UInt64) (H1 : Heap) (locs1 : List Loc) (ls1 : Array Slot), g_X11_meanPower T 0 = some (k1, r1, T1) → fr_meanPower Sm = some (r2, S1) → ad2 0 = ad 0 → IV aR0 1586 aK1 aK2 T1 → RC T1 → JJ S1 → gL cI cJ cZ cMic cSrc cSt cAI cAJ D ad2 (fun q => s.heap.size ≤ q) s.heap H1 locs1 T1 (oJ aj cJ f1 :: oD ae cD g1 :: MW cI cJ cZ am S1) → lv_has ls1 9 [(5, .int (nI i)), (4, .ref ae), (3, .ref aj), (2, .ref (am 0)), (1, .ref (ad2 0)), (0, .ref b)] → W p l e room_1 s m #[Value.ref b] below meth c H1 locs1 (19 + T1.1 + (j + 1)) (38467 + sg T1 + 6 * (j + 1)) Q (F0 m 2439 ls1 [])) : W p l e room_1 s m #[Value.ref b] below meth c H locs (19 + T.1 + j) (38467 + sg T + 6 * j) Q (F0 m 1077 ls []) := by
  have E : cE p c cL_law s m #[Value.ref b] lw_tbl D RL (CT cI cJ cZ cMic cSrc cSt cAI cAJ ++ [(cD, .double)]) := ⟨hx, hb, hts, hown, hK⟩
  have hA : ∀ q : Nat, s.heap.size ≤ q → s.heap.size ≤ q := fun _ h => h
  have h0T : 0 < T.1 := Nat.lt_of_lt_of_le (by decide) hV.1.2.2
  have h0s : T.2.1 0 = (11, 0) := hV.2.1 0 ⟨by decide, by decide +kernel, by decide +kernel⟩
  refine lv_aload_n hx hb dL_law_1077 rfl (lv_at hl 4 rfl) ?_
  refine lv_aload_n hx hb dL_law_1078 rfl (lv_at hl 2 rfl) ?_
  obtain ⟨⟨k1, r1, T1⟩, hg, hc⟩ := cs_X11_meanPower T 0 hV (by decide +kernel)
  have hV1 : IV aR0 1586 aK1 aK2 T1 := hc.1.1
  have hg1 := s_X11_meanPower hg
  have hg2 := sg_le hg1
  have hg3 := hg1.1
  have hk := hV1.2.2.2.2.2.2
  have hrc1 := hg1.2.2 hrc
  have hr0 := a_room
  refine l_v (h0 := s.heap.size) (As := [.ref (ad 0), .ref aj]) (rest := []) E G hA hX hN (fun _ h => h) hTS hml (v_meanPower l hst D s.heap.size ad T 0  aj f hg hrc h0T h0s) (vx_cwSW 2 hts (glA (L := [Cond.methodLink RL 287 yL_meanPower, Cond.static yL_meanPower, Cond.initialized RL]) (gl_in [(6, 37), (6, 38), (1, 0)] (by decide +kernel) (by decide +kernel)) ⟨(t_of [Cond.codeWith yL_meanPower cL_meanPower 3 (some .int) [(0, 7, 10, 21)]] [(6, 39)] (by decide +kernel) _ List.mem_cons_self), List.all_eq_true.mp (by decide +kernel : [Cond.codeWith yL_meanPower cL_meanPower 3 (some .int) [(0, 7, 10, 21)]].all goodWord = true) _ List.mem_cons_self⟩) rfl rfl rfl (by decide +kernel) ⟨Nat.le_of_ble_eq_true rfl, Nat.le_of_ble_eq_true rfl⟩) rfl hl.1 rfl (lv_room (Nat.le_of_ble_eq_true rfl)) dL_law_1079 ⟨by show _ ≤ 601024; omega, by show _ ≤ 7293034; omega⟩ ?_
  intro ad2 H locs had G
  rw [← had 0 h0T] at hl
  refine lv_istore (lv' := [(6, .int (vck 1 0 0 k1)), (5, .int (nI i)), (4, .ref ae), (3, .ref aj), (2, .ref (am 0)), (1, .ref (ad2 0)), (0, .ref b)]) hx hb dL_law_1082 hl (by decide) rfl (fun ls hl => ?_)
  refine lv_aload_n hx hb dL_law_1084 rfl (lv_at hl 4 rfl) ?_
  obtain ⟨⟨r2, S1⟩, hf, hj⟩ := sj_meanPower Sm hJ
  have hJ1 : JJ S1 := hj
  refine y_ml (As := []) (rest := []) E G hA hX.2.2.2.2 hml (tr_meanPower l D cI cJ cZ am Sm  hf) (cwV 0 hts (glM (L := [Cond.methodLink RL 289 yX12_meanPower, Cond.instanceMethod yX12_meanPower, Cond.selects RX12 yX12_meanPower yX12_meanPower, Cond.initialized RX12]) (gl_in [(9, 196), (9, 197), (9, 198), (1, 14)] (by decide +kernel) (by decide +kernel)) ⟨(t_of [Cond.code yX12_meanPower cX12_meanPower 4 (some .long)] [(9, 199)] (by decide +kernel) _ List.mem_cons_self), List.all_eq_true.mp (by decide +kernel : [Cond.code yX12_meanPower cX12_meanPower 4 (some .long)].all goodWord = true) _ List.mem_cons_self⟩) rfl rfl rfl (by decide +kernel) ⟨Nat.le_of_ble_eq_true rfl, Nat.le_of_ble_eq_true rfl⟩) rfl hl.1 rfl (lv_room (Nat.le_of_ble_eq_true rfl)) dL_law_1085 ⟨by show _ ≤ 601024; omega, by show _ ≤ 7293034; omega⟩ (fun H locs G => ?_)
  refine lv_lstore (lv' := [(7, .long r2), (6, .int (vck 1 0 0 k1)), (5, .int (nI i)), (4, .ref ae), (3, .ref aj), (2, .ref (am 0)), (1, .ref (ad2 0)), (0, .ref b)]) hx hb dL_law_1088 hl (by decide) rfl (fun ls hl => ?_)
  refine lv_goto (tgt := 2439) hx hb dL_law_1090 (by decide) ?_
  have hl := lv_sub hl [2, 3, 4, 5, 6, 7] rfl
  refine W.widen (k := 19 + T1.1 + (j + 1)) (n := 38467 + sg T1 + 6 * (j + 1)) (by omega) (by omega) ?_
  exact kk ad2 (vfJ k1 f r1) g H locs ls hg hf (had 0 h0T) hV1 hrc1 hJ1 G hl
set_option maxHeartbeats 4000000 in
set_option maxRecDepth 100000 in
theorem y_a27 {p : Program} {e : Env} {s : State} {m : MethodId} {below : List Frame} {meth : Method} {c : Code} (l : Launch) (hst : l.stackTraces = false) {b L : Nat} {xs : Nat → Int32} (hx : p.tables.exec = Jvm.exec) (hb : c.code = code) (hml : c.maxLocals = 9) (hown : s.vm.findClass RL = some m.cls) (hts : ∀ w ∈ lw_tbl, w.before #[Value.ref b] s = true) (hX0 : va_X b L xs s s.heap) (hbl : b < s.heap.size) (hX : xT (fun q => s.heap.size ≤ q) s) (hN : nC s) (hTS : sAll s.heap.size s) {D : va_G} {cI cJ cZ cMic cSrc cSt cAI cAJ cD : ClassId} (hK : va_K D vwCl (CT cI cJ cZ cMic cSrc cSt cAI cAJ ++ [(cD, .double)]) s) {Q : State → Prop} {i j : Nat} (hi : i + 6 ≤ L) (hL : L ≤ 3072) (hj : j < 512) {aj ae : Nat} {ad am : Nat → Nat} {T : AT} {Sm : MS} {f : Nat → Int64} {g : Nat → UInt64} {ls : Array Slot} {H : Heap} {locs : List Loc} (hV : IV aR0 1586 aK1 aK2 T) (hrc : RC T) (hJ : JJ Sm) (G : gL cI cJ cZ cMic cSrc cSt cAI cAJ D ad (fun q => s.heap.size ≤ q) s.heap H locs T (oJ aj cJ f :: oD ae cD g :: MW cI cJ cZ am Sm)) (hl : lv_has ls 9 [(5, .int (nI i)), (4, .ref ae), (3, .ref aj), (2, .ref (am 0)), (1, .ref (ad 0)), (0, .ref b)]) (kk : ∀ {k1 : Nat} {r1 : Int32} {T1 : AT} {r2 : Int32} {S1 : MS} (ad2 : Nat → Nat) (f1 : Nat → Int64) (g1 : Nat → UInt64) (H1 : Heap) (locs1 : List Loc) (ls1 : Array Slot), g_X11_peaks T 0 = some (k1, r1, T1) → fr_peaks Sm = some (r2, S1) → ad2 0 = ad 0 → IV aR0 1586 aK1 aK2 T1 → RC T1 → JJ S1 → gL cI cJ cZ cMic cSrc cSt cAI cAJ D ad2 (fun q => s.heap.size ≤ q) s.heap H1 locs1 T1 (oJ aj cJ f1 :: oD ae cD g1 :: MW cI cJ cZ am S1) → lv_has ls1 9 [(5, .int (nI i)), (4, .ref ae), (3, .ref aj), (2, .ref (am 0)), (1, .ref (ad2 0)), (0, .ref b)] → W p l e room_1 s m #[Value.ref b] below meth c H1 locs1 (19 + T1.1 + (j + 1)) (38467 + sg T1 + 6 * (j + 1)) Q (F0 m 2439 ls1 [])) : W p l e room_1 s m #[Value.ref b] below meth c H locs (19 + T.1 + j) (38467 + sg T + 6 * j) Q (F0 m 1093 ls []) := by
  have E : cE p c cL_law s m #[Value.ref b] lw_tbl D RL (CT cI cJ cZ cMic cSrc cSt cAI cAJ ++ [(cD, .double)]) := ⟨hx, hb, hts, hown, hK⟩
  have hA : ∀ q : Nat, s.heap.size ≤ q → s.heap.size ≤ q := fun _ h => h
  have h0T : 0 < T.1 := Nat.lt_of_lt_of_le (by decide) hV.1.2.2
  have h0s : T.2.1 0 = (11, 0) := hV.2.1 0 ⟨by decide, by decide +kernel, by decide +kernel⟩
  refine lv_aload_n hx hb dL_law_1093 rfl (lv_at hl 4 rfl) ?_
  refine lv_aload_n hx hb dL_law_1094 rfl (lv_at hl 2 rfl) ?_
  obtain ⟨⟨k1, r1, T1⟩, hg, hc⟩ := cs_X11_peaks T 0 hV (by decide +kernel)
  have hV1 : IV aR0 1586 aK1 aK2 T1 := hc.1.1
  have hg1 := s_X11_peaks hg
  have hg2 := sg_le hg1
  have hg3 := hg1.1
  have hk := hV1.2.2.2.2.2.2
  have hrc1 := hg1.2.2 hrc
  have hr0 := a_room
  refine l_v (h0 := s.heap.size) (As := [.ref (ad 0), .ref aj]) (rest := []) E G hA hX hN (fun _ h => h) hTS hml (v_peaks l hst D s.heap.size ad T 0  aj f hg hrc h0T h0s) (vx_cwSW 2 hts (glA (L := [Cond.methodLink RL 290 yL_peaks, Cond.static yL_peaks, Cond.initialized RL]) (gl_in [(6, 51), (6, 52), (1, 0)] (by decide +kernel) (by decide +kernel)) ⟨(t_of [Cond.codeWith yL_peaks cL_peaks 3 (some .int) [(0, 8, 11, 21)]] [(6, 53)] (by decide +kernel) _ List.mem_cons_self), List.all_eq_true.mp (by decide +kernel : [Cond.codeWith yL_peaks cL_peaks 3 (some .int) [(0, 8, 11, 21)]].all goodWord = true) _ List.mem_cons_self⟩) rfl rfl rfl (by decide +kernel) ⟨Nat.le_of_ble_eq_true rfl, Nat.le_of_ble_eq_true rfl⟩) rfl hl.1 rfl (lv_room (Nat.le_of_ble_eq_true rfl)) dL_law_1095 ⟨by show _ ≤ 601024; omega, by show _ ≤ 7293034; omega⟩ ?_
  intro ad2 H locs had G
  rw [← had 0 h0T] at hl
  refine lv_istore (lv' := [(6, .int (vck 1 0 0 k1)), (5, .int (nI i)), (4, .ref ae), (3, .ref aj), (2, .ref (am 0)), (1, .ref (ad2 0)), (0, .ref b)]) hx hb dL_law_1098 hl (by decide) rfl (fun ls hl => ?_)
  refine lv_aload_n hx hb dL_law_1100 rfl (lv_at hl 4 rfl) ?_
  obtain ⟨⟨r2, S1⟩, hf, hj⟩ := sj_peaks Sm hJ
  have hJ1 : JJ S1 := hj
  refine y_mi (As := []) (rest := []) E G hA hX.2.2.2.2 hml (tr_peaks l D cI cJ cZ am Sm  hf) (cwV 0 hts (glM (L := [Cond.methodLink RL 292 yX12_peaks, Cond.instanceMethod yX12_peaks, Cond.selects RX12 yX12_peaks yX12_peaks, Cond.initialized RX12]) (gl_in [(9, 200), (9, 201), (9, 202), (1, 14)] (by decide +kernel) (by decide +kernel)) ⟨(t_of [Cond.code yX12_peaks cX12_peaks 3 (some .int)] [(9, 203)] (by decide +kernel) _ List.mem_cons_self), List.all_eq_true.mp (by decide +kernel : [Cond.code yX12_peaks cX12_peaks 3 (some .int)].all goodWord = true) _ List.mem_cons_self⟩) rfl rfl rfl (by decide +kernel) ⟨Nat.le_of_ble_eq_true rfl, Nat.le_of_ble_eq_true rfl⟩) rfl hl.1 rfl (lv_room (Nat.le_of_ble_eq_true rfl)) dL_law_1101 ⟨by show _ ≤ 601024; omega, by show _ ≤ 7293034; omega⟩ (fun H locs G => ?_)
  refine lv_istore (lv' := [(7, .int r2), (6, .int (vck 1 0 0 k1)), (5, .int (nI i)), (4, .ref ae), (3, .ref aj), (2, .ref (am 0)), (1, .ref (ad2 0)), (0, .ref b)]) hx hb dL_law_1104 hl (by decide) rfl (fun ls hl => ?_)
  refine lv_goto (tgt := 2439) hx hb dL_law_1106 (by decide) ?_
  have hl := lv_sub hl [2, 3, 4, 5, 6, 7] rfl
  refine W.widen (k := 19 + T1.1 + (j + 1)) (n := 38467 + sg T1 + 6 * (j + 1)) (by omega) (by omega) ?_
  exact kk ad2 (vfJ k1 f r1.toInt64) g H locs ls hg hf (had 0 h0T) hV1 hrc1 hJ1 G hl
set_option maxHeartbeats 4000000 in
set_option maxRecDepth 100000 in
theorem y_a28 {p : Program} {e : Env} {s : State} {m : MethodId} {below : List Frame} {meth : Method} {c : Code} (l : Launch) (hst : l.stackTraces = false) {b L : Nat} {xs : Nat → Int32} (hx : p.tables.exec = Jvm.exec) (hb : c.code = code) (hml : c.maxLocals = 9) (hown : s.vm.findClass RL = some m.cls) (hts : ∀ w ∈ lw_tbl, w.before #[Value.ref b] s = true) (hX0 : va_X b L xs s s.heap) (hbl : b < s.heap.size) (hX : xT (fun q => s.heap.size ≤ q) s) (hN : nC s) (hTS : sAll s.heap.size s) {D : va_G} {cI cJ cZ cMic cSrc cSt cAI cAJ cD : ClassId} (hK : va_K D vwCl (CT cI cJ cZ cMic cSrc cSt cAI cAJ ++ [(cD, .double)]) s) {Q : State → Prop} {i j : Nat} (hi : i + 6 ≤ L) (hL : L ≤ 3072) (hj : j < 512) {aj ae : Nat} {ad am : Nat → Nat} {T : AT} {Sm : MS} {f : Nat → Int64} {g : Nat → UInt64} {ls : Array Slot} {H : Heap} {locs : List Loc} (hV : IV aR0 1586 aK1 aK2 T) (hrc : RC T) (hJ : JJ Sm) (G : gL cI cJ cZ cMic cSrc cSt cAI cAJ D ad (fun q => s.heap.size ≤ q) s.heap H locs T (oJ aj cJ f :: oD ae cD g :: MW cI cJ cZ am Sm)) (hl : lv_has ls 9 [(5, .int (nI i)), (4, .ref ae), (3, .ref aj), (2, .ref (am 0)), (1, .ref (ad 0)), (0, .ref b)]) (kk : ∀ {k1 : Nat} {r1 : Int32} {T1 : AT} {r2 : Int32} {S1 : MS} (ad2 : Nat → Nat) (f1 : Nat → Int64) (g1 : Nat → UInt64) (H1 : Heap) (locs1 : List Loc) (ls1 : Array Slot), g_X11_peakAt T 0 (xs (i + 1)) = some (k1, r1, T1) → fr_peakAt Sm (xs (i + 1)) = some (r2, S1) → ad2 0 = ad 0 → IV aR0 1586 aK1 aK2 T1 → RC T1 → JJ S1 → gL cI cJ cZ cMic cSrc cSt cAI cAJ D ad2 (fun q => s.heap.size ≤ q) s.heap H1 locs1 T1 (oJ aj cJ f1 :: oD ae cD g1 :: MW cI cJ cZ am S1) → lv_has ls1 9 [(5, .int (nI i)), (4, .ref ae), (3, .ref aj), (2, .ref (am 0)), (1, .ref (ad2 0)), (0, .ref b)] → W p l e room_1 s m #[Value.ref b] below meth c H1 locs1 (19 + T1.1 + (j + 1)) (38467 + sg T1 + 6 * (j + 1)) Q (F0 m 2439 ls1 [])) : W p l e room_1 s m #[Value.ref b] below meth c H locs (19 + T.1 + j) (38467 + sg T + 6 * j) Q (F0 m 1109 ls []) := by
  have E : cE p c cL_law s m #[Value.ref b] lw_tbl D RL (CT cI cJ cZ cMic cSrc cSt cAI cAJ ++ [(cD, .double)]) := ⟨hx, hb, hts, hown, hK⟩
  have hA : ∀ q : Nat, s.heap.size ≤ q → s.heap.size ≤ q := fun _ h => h
  have h0T : 0 < T.1 := Nat.lt_of_lt_of_le (by decide) hV.1.2.2
  have h0s : T.2.1 0 = (11, 0) := hV.2.1 0 ⟨by decide, by decide +kernel, by decide +kernel⟩
  refine lv_aload_n hx hb dL_law_1109 rfl (lv_at hl 4 rfl) ?_
  refine lv_aload_n hx hb dL_law_1110 rfl (lv_at hl 5 rfl) ?_
  refine lv_iload hx hb dL_law_1111 (lv_at hl 0 rfl) ?_
  refine lv_iconst (v := 1) hx hb dL_law_1113 (by decide) ?_
  refine lv_iadd hx hb dL_law_1114 ?_
  refine lv_to (y := nI (i + 1)) (nI_add i 1) ?_
  refine va_sld hx hb hX0 hbl (Nat.not_le.mpr hbl) G.2.2 (i := nI (i + 1)) (vp_in_nI (n := i + 1) (N := L) (by omega) (by omega)) dL_law_1115 ?_
  refine lv_to (y := xs (i + 1)) (congrArg xs (nI_clamp (by omega))) ?_
  refine lv_aload_n hx hb dL_law_1116 rfl (lv_at hl 2 rfl) ?_
  obtain ⟨⟨k1, r1, T1⟩, hg, hc⟩ := cs_X11_peakAt T 0 (xs (i + 1)) hV (by decide +kernel)
  have hV1 : IV aR0 1586 aK1 aK2 T1 := hc.1.1
  have hg1 := s_X11_peakAt hg
  have hg2 := sg_le hg1
  have hg3 := hg1.1
  have hk := hV1.2.2.2.2.2.2
  have hrc1 := hg1.2.2 hrc
  have hr0 := a_room
  refine l_v (h0 := s.heap.size) (As := [.ref (ad 0), .int (xs (i + 1)), .ref aj]) (rest := []) E G hA hX hN (fun _ h => h) hTS hml (v_peakAt l hst D s.heap.size ad T 0 (xs (i + 1)) aj f hg hrc h0T h0s) (vx_cwSW 3 hts (glA (L := [Cond.methodLink RL 293 yL_peakAt, Cond.static yL_peakAt, Cond.initialized RL]) (gl_in [(6, 58), (6, 59), (1, 0)] (by decide +kernel) (by decide +kernel)) ⟨(t_of [Cond.codeWith yL_peakAt cL_peakAt 4 (some .int) [(0, 9, 12, 21), (0, 9, 15, 13)]] [(6, 60)] (by decide +kernel) _ List.mem_cons_self), List.all_eq_true.mp (by decide +kernel : [Cond.codeWith yL_peakAt cL_peakAt 4 (some .int) [(0, 9, 12, 21), (0, 9, 15, 13)]].all goodWord = true) _ List.mem_cons_self⟩) rfl rfl rfl (by decide +kernel) ⟨Nat.le_of_ble_eq_true rfl, Nat.le_of_ble_eq_true rfl⟩) rfl hl.1 rfl (lv_room (Nat.le_of_ble_eq_true rfl)) dL_law_1117 ⟨by show _ ≤ 601024; omega, by show _ ≤ 7293034; omega⟩ ?_
  intro ad2 H locs had G
  rw [← had 0 h0T] at hl
  refine lv_istore (lv' := [(6, .int (vck 1 2 0 k1)), (5, .int (nI i)), (4, .ref ae), (3, .ref aj), (2, .ref (am 0)), (1, .ref (ad2 0)), (0, .ref b)]) hx hb dL_law_1120 hl (by decide) rfl (fun ls hl => ?_)
  refine lv_aload_n hx hb dL_law_1122 rfl (lv_at hl 4 rfl) ?_
  refine lv_aload_n hx hb dL_law_1123 rfl (lv_at hl 6 rfl) ?_
  refine lv_iload hx hb dL_law_1124 (lv_at hl 1 rfl) ?_
  refine lv_iconst (v := 1) hx hb dL_law_1126 (by decide) ?_
  refine lv_iadd hx hb dL_law_1127 ?_
  refine lv_to (y := nI (i + 1)) (nI_add i 1) ?_
  refine va_sld hx hb hX0 hbl (Nat.not_le.mpr hbl) G.2.2 (i := nI (i + 1)) (vp_in_nI (n := i + 1) (N := L) (by omega) (by omega)) dL_law_1128 ?_
  refine lv_to (y := xs (i + 1)) (congrArg xs (nI_clamp (by omega))) ?_
  obtain ⟨⟨r2, S1⟩, hf, hj⟩ := sj_peakAt Sm (xs (i + 1)) hJ
  have hJ1 : JJ S1 := hj
  refine y_mi (As := [.int (xs (i + 1))]) (rest := []) E G hA hX.2.2.2.2 hml (tr_peakAt l D cI cJ cZ am Sm (xs (i + 1)) hf) (cwV 1 hts (glM (L := [Cond.methodLink RL 295 yX12_peakAt, Cond.instanceMethod yX12_peakAt, Cond.selects RX12 yX12_peakAt yX12_peakAt, Cond.initialized RX12]) (gl_in [(9, 208), (9, 209), (9, 210), (1, 14)] (by decide +kernel) (by decide +kernel)) ⟨(t_of [Cond.code yX12_peakAt cX12_peakAt 5 (some .int)] [(9, 211)] (by decide +kernel) _ List.mem_cons_self), List.all_eq_true.mp (by decide +kernel : [Cond.code yX12_peakAt cX12_peakAt 5 (some .int)].all goodWord = true) _ List.mem_cons_self⟩) rfl rfl rfl (by decide +kernel) ⟨Nat.le_of_ble_eq_true rfl, Nat.le_of_ble_eq_true rfl⟩) rfl hl.1 rfl (lv_room (Nat.le_of_ble_eq_true rfl)) dL_law_1129 ⟨by show _ ≤ 601024; omega, by show _ ≤ 7293034; omega⟩ (fun H locs G => ?_)
  refine lv_istore (lv' := [(7, .int r2), (6, .int (vck 1 2 0 k1)), (5, .int (nI i)), (4, .ref ae), (3, .ref aj), (2, .ref (am 0)), (1, .ref (ad2 0)), (0, .ref b)]) hx hb dL_law_1132 hl (by decide) rfl (fun ls hl => ?_)
  refine lv_goto (tgt := 2439) hx hb dL_law_1134 (by decide) ?_
  have hl := lv_sub hl [2, 3, 4, 5, 6, 7] rfl
  refine W.widen (k := 19 + T1.1 + (j + 1)) (n := 38467 + sg T1 + 6 * (j + 1)) (by omega) (by omega) ?_
  exact kk ad2 (vfJ k1 f r1.toInt64) g H locs ls hg hf (had 0 h0T) hV1 hrc1 hJ1 G hl
set_option maxHeartbeats 4000000 in
set_option maxRecDepth 100000 in
theorem y_a29 {p : Program} {e : Env} {s : State} {m : MethodId} {below : List Frame} {meth : Method} {c : Code} (l : Launch) (hst : l.stackTraces = false) {b L : Nat} {xs : Nat → Int32} (hx : p.tables.exec = Jvm.exec) (hb : c.code = code) (hml : c.maxLocals = 9) (hown : s.vm.findClass RL = some m.cls) (hts : ∀ w ∈ lw_tbl, w.before #[Value.ref b] s = true) (hX0 : va_X b L xs s s.heap) (hbl : b < s.heap.size) (hX : xT (fun q => s.heap.size ≤ q) s) (hN : nC s) (hTS : sAll s.heap.size s) {D : va_G} {cI cJ cZ cMic cSrc cSt cAI cAJ cD : ClassId} (hK : va_K D vwCl (CT cI cJ cZ cMic cSrc cSt cAI cAJ ++ [(cD, .double)]) s) {Q : State → Prop} {i j : Nat} (hi : i + 6 ≤ L) (hL : L ≤ 3072) (hj : j < 512) {aj ae : Nat} {ad am : Nat → Nat} {T : AT} {Sm : MS} {f : Nat → Int64} {g : Nat → UInt64} {ls : Array Slot} {H : Heap} {locs : List Loc} (hV : IV aR0 1586 aK1 aK2 T) (hrc : RC T) (hJ : JJ Sm) (G : gL cI cJ cZ cMic cSrc cSt cAI cAJ D ad (fun q => s.heap.size ≤ q) s.heap H locs T (oJ aj cJ f :: oD ae cD g :: MW cI cJ cZ am Sm)) (hl : lv_has ls 9 [(5, .int (nI i)), (4, .ref ae), (3, .ref aj), (2, .ref (am 0)), (1, .ref (ad 0)), (0, .ref b)]) (kk : ∀ {k1 : Nat} {r1 : Int32} {T1 : AT} {r2 : Int32} {S1 : MS} (ad2 : Nat → Nat) (f1 : Nat → Int64) (g1 : Nat → UInt64) (H1 : Heap) (locs1 : List Loc) (ls1 : Array Slot), g_X11_isPeak T 0 (xs (i + 1)) = some (k1, r1, T1) → fr_isPeak Sm (xs (i + 1)) = some (r2, S1) → ad2 0 = ad 0 → IV aR0 1586 aK1 aK2 T1 → RC T1 → JJ S1 → gL cI cJ cZ cMic cSrc cSt cAI cAJ D ad2 (fun q => s.heap.size ≤ q) s.heap H1 locs1 T1 (oJ aj cJ f1 :: oD ae cD g1 :: MW cI cJ cZ am S1) → lv_has ls1 9 [(5, .int (nI i)), (4, .ref ae), (3, .ref aj), (2, .ref (am 0)), (1, .ref (ad2 0)), (0, .ref b)] → W p l e room_1 s m #[Value.ref b] below meth c H1 locs1 (19 + T1.1 + (j + 1)) (38467 + sg T1 + 6 * (j + 1)) Q (F0 m 2439 ls1 [])) : W p l e room_1 s m #[Value.ref b] below meth c H locs (19 + T.1 + j) (38467 + sg T + 6 * j) Q (F0 m 1137 ls []) := by
  have E : cE p c cL_law s m #[Value.ref b] lw_tbl D RL (CT cI cJ cZ cMic cSrc cSt cAI cAJ ++ [(cD, .double)]) := ⟨hx, hb, hts, hown, hK⟩
  have hA : ∀ q : Nat, s.heap.size ≤ q → s.heap.size ≤ q := fun _ h => h
  have h0T : 0 < T.1 := Nat.lt_of_lt_of_le (by decide) hV.1.2.2
  have h0s : T.2.1 0 = (11, 0) := hV.2.1 0 ⟨by decide, by decide +kernel, by decide +kernel⟩
  refine lv_aload_n hx hb dL_law_1137 rfl (lv_at hl 4 rfl) ?_
  refine lv_aload_n hx hb dL_law_1138 rfl (lv_at hl 5 rfl) ?_
  refine lv_iload hx hb dL_law_1139 (lv_at hl 0 rfl) ?_
  refine lv_iconst (v := 1) hx hb dL_law_1141 (by decide) ?_
  refine lv_iadd hx hb dL_law_1142 ?_
  refine lv_to (y := nI (i + 1)) (nI_add i 1) ?_
  refine va_sld hx hb hX0 hbl (Nat.not_le.mpr hbl) G.2.2 (i := nI (i + 1)) (vp_in_nI (n := i + 1) (N := L) (by omega) (by omega)) dL_law_1143 ?_
  refine lv_to (y := xs (i + 1)) (congrArg xs (nI_clamp (by omega))) ?_
  refine lv_aload_n hx hb dL_law_1144 rfl (lv_at hl 2 rfl) ?_
  obtain ⟨⟨k1, r1, T1⟩, hg, hc⟩ := cs_X11_isPeak T 0 (xs (i + 1)) hV (by decide +kernel)
  have hV1 : IV aR0 1586 aK1 aK2 T1 := hc.1.1
  have hg1 := s_X11_isPeak hg
  have hg2 := sg_le hg1
  have hg3 := hg1.1
  have hk := hV1.2.2.2.2.2.2
  have hrc1 := hg1.2.2 hrc
  have hr0 := a_room
  refine l_v (h0 := s.heap.size) (As := [.ref (ad 0), .int (xs (i + 1)), .ref aj]) (rest := []) E G hA hX hN (fun _ h => h) hTS hml (v_isPeak l hst D s.heap.size ad T 0 (xs (i + 1)) aj f hg hrc h0T h0s) (vx_cwSW 3 hts (glA (L := [Cond.methodLink RL 296 yL_isPeak, Cond.static yL_isPeak, Cond.initialized RL]) (gl_in [(6, 74), (6, 75), (1, 0)] (by decide +kernel) (by decide +kernel)) ⟨(t_of [Cond.codeWith yL_isPeak cL_isPeak 4 (some .int) [(0, 16, 19, 21), (0, 16, 22, 13)]] [(6, 76)] (by decide +kernel) _ List.mem_cons_self), List.all_eq_true.mp (by decide +kernel : [Cond.codeWith yL_isPeak cL_isPeak 4 (some .int) [(0, 16, 19, 21), (0, 16, 22, 13)]].all goodWord = true) _ List.mem_cons_self⟩) rfl rfl rfl (by decide +kernel) ⟨Nat.le_of_ble_eq_true rfl, Nat.le_of_ble_eq_true rfl⟩) rfl hl.1 rfl (lv_room (Nat.le_of_ble_eq_true rfl)) dL_law_1145 ⟨by show _ ≤ 601024; omega, by show _ ≤ 7293034; omega⟩ ?_
  intro ad2 H locs had G
  rw [← had 0 h0T] at hl
  refine lv_istore (lv' := [(6, .int (vck 1 2 0 k1)), (5, .int (nI i)), (4, .ref ae), (3, .ref aj), (2, .ref (am 0)), (1, .ref (ad2 0)), (0, .ref b)]) hx hb dL_law_1148 hl (by decide) rfl (fun ls hl => ?_)
  refine lv_aload_n hx hb dL_law_1150 rfl (lv_at hl 4 rfl) ?_
  refine lv_aload_n hx hb dL_law_1151 rfl (lv_at hl 6 rfl) ?_
  refine lv_iload hx hb dL_law_1152 (lv_at hl 1 rfl) ?_
  refine lv_iconst (v := 1) hx hb dL_law_1154 (by decide) ?_
  refine lv_iadd hx hb dL_law_1155 ?_
  refine lv_to (y := nI (i + 1)) (nI_add i 1) ?_
  refine va_sld hx hb hX0 hbl (Nat.not_le.mpr hbl) G.2.2 (i := nI (i + 1)) (vp_in_nI (n := i + 1) (N := L) (by omega) (by omega)) dL_law_1156 ?_
  refine lv_to (y := xs (i + 1)) (congrArg xs (nI_clamp (by omega))) ?_
  obtain ⟨⟨r2, S1⟩, hf, hj⟩ := sj_isPeak Sm (xs (i + 1)) hJ
  have hJ1 : JJ S1 := hj
  refine y_mi (As := [.int (xs (i + 1))]) (rest := []) E G hA hX.2.2.2.2 hml (tr_isPeak l D cI cJ cZ am Sm (xs (i + 1)) hf) (cwV 1 hts (glM (L := [Cond.methodLink RL 298 yX12_isPeak, Cond.instanceMethod yX12_isPeak, Cond.selects RX12 yX12_isPeak yX12_isPeak, Cond.initialized RX12]) (gl_in [(9, 216), (9, 217), (9, 218), (1, 14)] (by decide +kernel) (by decide +kernel)) ⟨(t_of [Cond.code yX12_isPeak cX12_isPeak 2 (some .boolean)] [(9, 219)] (by decide +kernel) _ List.mem_cons_self), List.all_eq_true.mp (by decide +kernel : [Cond.code yX12_isPeak cX12_isPeak 2 (some .boolean)].all goodWord = true) _ List.mem_cons_self⟩) rfl rfl rfl (by decide +kernel) ⟨Nat.le_of_ble_eq_true rfl, Nat.le_of_ble_eq_true rfl⟩) rfl hl.1 rfl (lv_room (Nat.le_of_ble_eq_true rfl)) dL_law_1157 ⟨by show _ ≤ 601024; omega, by show _ ≤ 7293034; omega⟩ (fun H locs G => ?_)
  refine lv_istore (lv' := [(7, .int r2), (6, .int (vck 1 2 0 k1)), (5, .int (nI i)), (4, .ref ae), (3, .ref aj), (2, .ref (am 0)), (1, .ref (ad2 0)), (0, .ref b)]) hx hb dL_law_1160 hl (by decide) rfl (fun ls hl => ?_)
  refine lv_goto (tgt := 2439) hx hb dL_law_1162 (by decide) ?_
  have hl := lv_sub hl [2, 3, 4, 5, 6, 7] rfl
  refine W.widen (k := 19 + T1.1 + (j + 1)) (n := 38467 + sg T1 + 6 * (j + 1)) (by omega) (by omega) ?_
  exact kk ad2 (vfJ k1 f (vzb r1)) g H locs ls hg hf (had 0 h0T) hV1 hrc1 hJ1 G hl
set_option maxHeartbeats 4000000 in
set_option maxRecDepth 100000 in
theorem y_a30 {p : Program} {e : Env} {s : State} {m : MethodId} {below : List Frame} {meth : Method} {c : Code} (l : Launch) (hst : l.stackTraces = false) {b L : Nat} {xs : Nat → Int32} (hx : p.tables.exec = Jvm.exec) (hb : c.code = code) (hml : c.maxLocals = 9) (hown : s.vm.findClass RL = some m.cls) (hts : ∀ w ∈ lw_tbl, w.before #[Value.ref b] s = true) (hX0 : va_X b L xs s s.heap) (hbl : b < s.heap.size) (hX : xT (fun q => s.heap.size ≤ q) s) (hN : nC s) (hTS : sAll s.heap.size s) {D : va_G} {cI cJ cZ cMic cSrc cSt cAI cAJ cD : ClassId} (hK : va_K D vwCl (CT cI cJ cZ cMic cSrc cSt cAI cAJ ++ [(cD, .double)]) s) {Q : State → Prop} {i j : Nat} (hi : i + 6 ≤ L) (hL : L ≤ 3072) (hj : j < 512) {aj ae : Nat} {ad am : Nat → Nat} {T : AT} {Sm : MS} {f : Nat → Int64} {g : Nat → UInt64} {ls : Array Slot} {H : Heap} {locs : List Loc} (hV : IV aR0 1586 aK1 aK2 T) (hrc : RC T) (hJ : JJ Sm) (G : gL cI cJ cZ cMic cSrc cSt cAI cAJ D ad (fun q => s.heap.size ≤ q) s.heap H locs T (oJ aj cJ f :: oD ae cD g :: MW cI cJ cZ am Sm)) (hl : lv_has ls 9 [(5, .int (nI i)), (4, .ref ae), (3, .ref aj), (2, .ref (am 0)), (1, .ref (ad 0)), (0, .ref b)]) (kk : ∀ {k1 : Nat} {r1 : Int64} {T1 : AT} {r2 : Int64} {S1 : MS} (ad2 : Nat → Nat) (f1 : Nat → Int64) (g1 : Nat → UInt64) (H1 : Heap) (locs1 : List Loc) (ls1 : Array Slot), g_X11_zonePower T 0 (xs (i + 1)) = some (k1, r1, T1) → fr_zonePower Sm (xs (i + 1)) = some (r2, S1) → ad2 0 = ad 0 → IV aR0 1586 aK1 aK2 T1 → RC T1 → JJ S1 → gL cI cJ cZ cMic cSrc cSt cAI cAJ D ad2 (fun q => s.heap.size ≤ q) s.heap H1 locs1 T1 (oJ aj cJ f1 :: oD ae cD g1 :: MW cI cJ cZ am S1) → lv_has ls1 9 [(5, .int (nI i)), (4, .ref ae), (3, .ref aj), (2, .ref (am 0)), (1, .ref (ad2 0)), (0, .ref b)] → W p l e room_1 s m #[Value.ref b] below meth c H1 locs1 (19 + T1.1 + (j + 1)) (38467 + sg T1 + 6 * (j + 1)) Q (F0 m 2439 ls1 [])) : W p l e room_1 s m #[Value.ref b] below meth c H locs (19 + T.1 + j) (38467 + sg T + 6 * j) Q (F0 m 1165 ls []) := by
  have E : cE p c cL_law s m #[Value.ref b] lw_tbl D RL (CT cI cJ cZ cMic cSrc cSt cAI cAJ ++ [(cD, .double)]) := ⟨hx, hb, hts, hown, hK⟩
  have hA : ∀ q : Nat, s.heap.size ≤ q → s.heap.size ≤ q := fun _ h => h
  have h0T : 0 < T.1 := Nat.lt_of_lt_of_le (by decide) hV.1.2.2
  have h0s : T.2.1 0 = (11, 0) := hV.2.1 0 ⟨by decide, by decide +kernel, by decide +kernel⟩
  refine lv_aload_n hx hb dL_law_1165 rfl (lv_at hl 4 rfl) ?_
  refine lv_aload_n hx hb dL_law_1166 rfl (lv_at hl 5 rfl) ?_
  refine lv_iload hx hb dL_law_1167 (lv_at hl 0 rfl) ?_
  refine lv_iconst (v := 1) hx hb dL_law_1169 (by decide) ?_
  refine lv_iadd hx hb dL_law_1170 ?_
  refine lv_to (y := nI (i + 1)) (nI_add i 1) ?_
  refine va_sld hx hb hX0 hbl (Nat.not_le.mpr hbl) G.2.2 (i := nI (i + 1)) (vp_in_nI (n := i + 1) (N := L) (by omega) (by omega)) dL_law_1171 ?_
  refine lv_to (y := xs (i + 1)) (congrArg xs (nI_clamp (by omega))) ?_
  refine lv_aload_n hx hb dL_law_1172 rfl (lv_at hl 2 rfl) ?_
  obtain ⟨⟨k1, r1, T1⟩, hg, hc⟩ := cs_X11_zonePower T 0 (xs (i + 1)) hV (by decide +kernel)
  have hV1 : IV aR0 1586 aK1 aK2 T1 := hc.1.1
  have hg1 := s_X11_zonePower hg
  have hg2 := sg_le hg1
  have hg3 := hg1.1
  have hk := hV1.2.2.2.2.2.2
  have hrc1 := hg1.2.2 hrc
  have hr0 := a_room
  refine l_v (h0 := s.heap.size) (As := [.ref (ad 0), .int (xs (i + 1)), .ref aj]) (rest := []) E G hA hX hN (fun _ h => h) hTS hml (v_zonePower l hst D s.heap.size ad T 0 (xs (i + 1)) aj f hg hrc h0T h0s) (vx_cwSW 3 hts (glA (L := [Cond.methodLink RL 299 yL_zonePower, Cond.static yL_zonePower, Cond.initialized RL]) (gl_in [(6, 82), (6, 83), (1, 0)] (by decide +kernel) (by decide +kernel)) ⟨(t_of [Cond.codeWith yL_zonePower cL_zonePower 4 (some .int) [(0, 8, 11, 21), (0, 8, 14, 13)]] [(6, 84)] (by decide +kernel) _ List.mem_cons_self), List.all_eq_true.mp (by decide +kernel : [Cond.codeWith yL_zonePower cL_zonePower 4 (some .int) [(0, 8, 11, 21), (0, 8, 14, 13)]].all goodWord = true) _ List.mem_cons_self⟩) rfl rfl rfl (by decide +kernel) ⟨Nat.le_of_ble_eq_true rfl, Nat.le_of_ble_eq_true rfl⟩) rfl hl.1 rfl (lv_room (Nat.le_of_ble_eq_true rfl)) dL_law_1173 ⟨by show _ ≤ 601024; omega, by show _ ≤ 7293034; omega⟩ ?_
  intro ad2 H locs had G
  rw [← had 0 h0T] at hl
  refine lv_istore (lv' := [(6, .int (vck 1 2 0 k1)), (5, .int (nI i)), (4, .ref ae), (3, .ref aj), (2, .ref (am 0)), (1, .ref (ad2 0)), (0, .ref b)]) hx hb dL_law_1176 hl (by decide) rfl (fun ls hl => ?_)
  refine lv_aload_n hx hb dL_law_1178 rfl (lv_at hl 4 rfl) ?_
  refine lv_aload_n hx hb dL_law_1179 rfl (lv_at hl 6 rfl) ?_
  refine lv_iload hx hb dL_law_1180 (lv_at hl 1 rfl) ?_
  refine lv_iconst (v := 1) hx hb dL_law_1182 (by decide) ?_
  refine lv_iadd hx hb dL_law_1183 ?_
  refine lv_to (y := nI (i + 1)) (nI_add i 1) ?_
  refine va_sld hx hb hX0 hbl (Nat.not_le.mpr hbl) G.2.2 (i := nI (i + 1)) (vp_in_nI (n := i + 1) (N := L) (by omega) (by omega)) dL_law_1184 ?_
  refine lv_to (y := xs (i + 1)) (congrArg xs (nI_clamp (by omega))) ?_
  obtain ⟨⟨r2, S1⟩, hf, hj⟩ := sj_zonePower Sm (xs (i + 1)) hJ
  have hJ1 : JJ S1 := hj
  refine y_ml (As := [.int (xs (i + 1))]) (rest := []) E G hA hX.2.2.2.2 hml (tr_zonePower l D cI cJ cZ am Sm (xs (i + 1)) hf) (cwV 1 hts (glM (L := [Cond.methodLink RL 301 yX12_zonePower, Cond.instanceMethod yX12_zonePower, Cond.selects RX12 yX12_zonePower yX12_zonePower, Cond.initialized RX12]) (gl_in [(10, 69), (10, 70), (10, 71), (1, 14)] (by decide +kernel) (by decide +kernel)) ⟨(t_of [Cond.code yX12_zonePower cX12_zonePower 5 (some .long)] [(10, 72)] (by decide +kernel) _ List.mem_cons_self), List.all_eq_true.mp (by decide +kernel : [Cond.code yX12_zonePower cX12_zonePower 5 (some .long)].all goodWord = true) _ List.mem_cons_self⟩) rfl rfl rfl (by decide +kernel) ⟨Nat.le_of_ble_eq_true rfl, Nat.le_of_ble_eq_true rfl⟩) rfl hl.1 rfl (lv_room (Nat.le_of_ble_eq_true rfl)) dL_law_1185 ⟨by show _ ≤ 601024; omega, by show _ ≤ 7293034; omega⟩ (fun H locs G => ?_)
  refine lv_lstore (lv' := [(7, .long r2), (6, .int (vck 1 2 0 k1)), (5, .int (nI i)), (4, .ref ae), (3, .ref aj), (2, .ref (am 0)), (1, .ref (ad2 0)), (0, .ref b)]) hx hb dL_law_1188 hl (by decide) rfl (fun ls hl => ?_)
  refine lv_goto (tgt := 2439) hx hb dL_law_1190 (by decide) ?_
  have hl := lv_sub hl [2, 3, 4, 5, 6, 7] rfl
  refine W.widen (k := 19 + T1.1 + (j + 1)) (n := 38467 + sg T1 + 6 * (j + 1)) (by omega) (by omega) ?_
  exact kk ad2 (vfJ k1 f r1) g H locs ls hg hf (had 0 h0T) hV1 hrc1 hJ1 G hl
set_option maxHeartbeats 4000000 in
set_option maxRecDepth 100000 in
theorem y_a31 {p : Program} {e : Env} {s : State} {m : MethodId} {below : List Frame} {meth : Method} {c : Code} (l : Launch) (hst : l.stackTraces = false) {b L : Nat} {xs : Nat → Int32} (hx : p.tables.exec = Jvm.exec) (hb : c.code = code) (hml : c.maxLocals = 9) (hown : s.vm.findClass RL = some m.cls) (hts : ∀ w ∈ lw_tbl, w.before #[Value.ref b] s = true) (hX0 : va_X b L xs s s.heap) (hbl : b < s.heap.size) (hX : xT (fun q => s.heap.size ≤ q) s) (hN : nC s) (hTS : sAll s.heap.size s) {D : va_G} {cI cJ cZ cMic cSrc cSt cAI cAJ cD : ClassId} (hK : va_K D vwCl (CT cI cJ cZ cMic cSrc cSt cAI cAJ ++ [(cD, .double)]) s) {Q : State → Prop} {i j : Nat} (hi : i + 6 ≤ L) (hL : L ≤ 3072) (hj : j < 512) {aj ae : Nat} {ad am : Nat → Nat} {T : AT} {Sm : MS} {f : Nat → Int64} {g : Nat → UInt64} {ls : Array Slot} {H : Heap} {locs : List Loc} (hV : IV aR0 1586 aK1 aK2 T) (hrc : RC T) (hJ : JJ Sm) (G : gL cI cJ cZ cMic cSrc cSt cAI cAJ D ad (fun q => s.heap.size ≤ q) s.heap H locs T (oJ aj cJ f :: oD ae cD g :: MW cI cJ cZ am Sm)) (hl : lv_has ls 9 [(5, .int (nI i)), (4, .ref ae), (3, .ref aj), (2, .ref (am 0)), (1, .ref (ad 0)), (0, .ref b)]) (kk : ∀ {k1 : Nat} {r1 : Int32} {T1 : AT} {r2 : Int32} {S1 : MS} (ad2 : Nat → Nat) (f1 : Nat → Int64) (g1 : Nat → UInt64) (H1 : Heap) (locs1 : List Loc) (ls1 : Array Slot), g_X11_zoneBest T 0 (xs (i + 1)) = some (k1, r1, T1) → fr_zoneBest Sm (xs (i + 1)) = some (r2, S1) → ad2 0 = ad 0 → IV aR0 1586 aK1 aK2 T1 → RC T1 → JJ S1 → gL cI cJ cZ cMic cSrc cSt cAI cAJ D ad2 (fun q => s.heap.size ≤ q) s.heap H1 locs1 T1 (oJ aj cJ f1 :: oD ae cD g1 :: MW cI cJ cZ am S1) → lv_has ls1 9 [(5, .int (nI i)), (4, .ref ae), (3, .ref aj), (2, .ref (am 0)), (1, .ref (ad2 0)), (0, .ref b)] → W p l e room_1 s m #[Value.ref b] below meth c H1 locs1 (19 + T1.1 + (j + 1)) (38467 + sg T1 + 6 * (j + 1)) Q (F0 m 2439 ls1 [])) : W p l e room_1 s m #[Value.ref b] below meth c H locs (19 + T.1 + j) (38467 + sg T + 6 * j) Q (F0 m 1193 ls []) := by
  have E : cE p c cL_law s m #[Value.ref b] lw_tbl D RL (CT cI cJ cZ cMic cSrc cSt cAI cAJ ++ [(cD, .double)]) := ⟨hx, hb, hts, hown, hK⟩
  have hA : ∀ q : Nat, s.heap.size ≤ q → s.heap.size ≤ q := fun _ h => h
  have h0T : 0 < T.1 := Nat.lt_of_lt_of_le (by decide) hV.1.2.2
  have h0s : T.2.1 0 = (11, 0) := hV.2.1 0 ⟨by decide, by decide +kernel, by decide +kernel⟩
  refine lv_aload_n hx hb dL_law_1193 rfl (lv_at hl 4 rfl) ?_
  refine lv_aload_n hx hb dL_law_1194 rfl (lv_at hl 5 rfl) ?_
  refine lv_iload hx hb dL_law_1195 (lv_at hl 0 rfl) ?_
  refine lv_iconst (v := 1) hx hb dL_law_1197 (by decide) ?_
  refine lv_iadd hx hb dL_law_1198 ?_
  refine lv_to (y := nI (i + 1)) (nI_add i 1) ?_
  refine va_sld hx hb hX0 hbl (Nat.not_le.mpr hbl) G.2.2 (i := nI (i + 1)) (vp_in_nI (n := i + 1) (N := L) (by omega) (by omega)) dL_law_1199 ?_
  refine lv_to (y := xs (i + 1)) (congrArg xs (nI_clamp (by omega))) ?_
  refine lv_aload_n hx hb dL_law_1200 rfl (lv_at hl 2 rfl) ?_
  obtain ⟨⟨k1, r1, T1⟩, hg, hc⟩ := cs_X11_zoneBest T 0 (xs (i + 1)) hV (by decide +kernel)
  have hV1 : IV aR0 1586 aK1 aK2 T1 := hc.1.1
  have hg1 := s_X11_zoneBest hg
  have hg2 := sg_le hg1
  have hg3 := hg1.1
  have hk := hV1.2.2.2.2.2.2
  have hrc1 := hg1.2.2 hrc
  have hr0 := a_room
  refine l_v (h0 := s.heap.size) (As := [.ref (ad 0), .int (xs (i + 1)), .ref aj]) (rest := []) E G hA hX hN (fun _ h => h) hTS hml (v_zoneBest l hst D s.heap.size ad T 0 (xs (i + 1)) aj f hg hrc h0T h0s) (vx_cwSW 3 hts (glA (L := [Cond.methodLink RL 302 yL_zoneBest, Cond.static yL_zoneBest, Cond.initialized RL]) (gl_in [(6, 89), (6, 90), (1, 0)] (by decide +kernel) (by decide +kernel)) ⟨(t_of [Cond.codeWith yL_zoneBest cL_zoneBest 4 (some .int) [(0, 9, 12, 21), (0, 9, 15, 13)]] [(6, 91)] (by decide +kernel) _ List.mem_cons_self), List.all_eq_true.mp (by decide +kernel : [Cond.codeWith yL_zoneBest cL_zoneBest 4 (some .int) [(0, 9, 12, 21), (0, 9, 15, 13)]].all goodWord = true) _ List.mem_cons_self⟩) rfl rfl rfl (by decide +kernel) ⟨Nat.le_of_ble_eq_true rfl, Nat.le_of_ble_eq_true rfl⟩) rfl hl.1 rfl (lv_room (Nat.le_of_ble_eq_true rfl)) dL_law_1201 ⟨by show _ ≤ 601024; omega, by show _ ≤ 7293034; omega⟩ ?_
  intro ad2 H locs had G
  rw [← had 0 h0T] at hl
  refine lv_istore (lv' := [(6, .int (vck 1 2 0 k1)), (5, .int (nI i)), (4, .ref ae), (3, .ref aj), (2, .ref (am 0)), (1, .ref (ad2 0)), (0, .ref b)]) hx hb dL_law_1204 hl (by decide) rfl (fun ls hl => ?_)
  refine lv_aload_n hx hb dL_law_1206 rfl (lv_at hl 4 rfl) ?_
  refine lv_aload_n hx hb dL_law_1207 rfl (lv_at hl 6 rfl) ?_
  refine lv_iload hx hb dL_law_1208 (lv_at hl 1 rfl) ?_
  refine lv_iconst (v := 1) hx hb dL_law_1210 (by decide) ?_
  refine lv_iadd hx hb dL_law_1211 ?_
  refine lv_to (y := nI (i + 1)) (nI_add i 1) ?_
  refine va_sld hx hb hX0 hbl (Nat.not_le.mpr hbl) G.2.2 (i := nI (i + 1)) (vp_in_nI (n := i + 1) (N := L) (by omega) (by omega)) dL_law_1212 ?_
  refine lv_to (y := xs (i + 1)) (congrArg xs (nI_clamp (by omega))) ?_
  obtain ⟨⟨r2, S1⟩, hf, hj⟩ := sj_zoneBest Sm (xs (i + 1)) hJ
  have hJ1 : JJ S1 := hj
  refine y_mi (As := [.int (xs (i + 1))]) (rest := []) E G hA hX.2.2.2.2 hml (tr_zoneBest l D cI cJ cZ am Sm (xs (i + 1)) hf) (cwV 1 hts (glM (L := [Cond.methodLink RL 304 yX12_zoneBest, Cond.instanceMethod yX12_zoneBest, Cond.selects RX12 yX12_zoneBest yX12_zoneBest, Cond.initialized RX12]) (gl_in [(10, 81), (10, 82), (10, 83), (1, 14)] (by decide +kernel) (by decide +kernel)) ⟨(t_of [Cond.code yX12_zoneBest cX12_zoneBest 4 (some .int)] [(10, 84)] (by decide +kernel) _ List.mem_cons_self), List.all_eq_true.mp (by decide +kernel : [Cond.code yX12_zoneBest cX12_zoneBest 4 (some .int)].all goodWord = true) _ List.mem_cons_self⟩) rfl rfl rfl (by decide +kernel) ⟨Nat.le_of_ble_eq_true rfl, Nat.le_of_ble_eq_true rfl⟩) rfl hl.1 rfl (lv_room (Nat.le_of_ble_eq_true rfl)) dL_law_1213 ⟨by show _ ≤ 601024; omega, by show _ ≤ 7293034; omega⟩ (fun H locs G => ?_)
  refine lv_istore (lv' := [(7, .int r2), (6, .int (vck 1 2 0 k1)), (5, .int (nI i)), (4, .ref ae), (3, .ref aj), (2, .ref (am 0)), (1, .ref (ad2 0)), (0, .ref b)]) hx hb dL_law_1216 hl (by decide) rfl (fun ls hl => ?_)
  refine lv_goto (tgt := 2439) hx hb dL_law_1218 (by decide) ?_
  have hl := lv_sub hl [2, 3, 4, 5, 6, 7] rfl
  refine W.widen (k := 19 + T1.1 + (j + 1)) (n := 38467 + sg T1 + 6 * (j + 1)) (by omega) (by omega) ?_
  exact kk ad2 (vfJ k1 f r1.toInt64) g H locs ls hg hf (had 0 h0T) hV1 hrc1 hJ1 G hl
end
section
/-! 17e.arm4.lean.txt -/
theorem dL_law_1221 : decode cL_law 1221 = .ok (.aload_n 1, 1) := de_43 (lb_76 (j := 5) (b := 43) rfl)
theorem dL_law_1222 : decode cL_law 1222 = .ok (.aload 4, 2) := de_25 (lb_76 (j := 6) (b := 25) rfl) (lb_76 (j := 7) (b := 4) rfl) rfl
theorem dL_law_1224 : decode cL_law 1224 = .ok (.invokestatic 305, 3) := de_184 (lb_76 (j := 8) (b := 184) rfl) (lb_76 (j := 9) (b := 1) rfl) (lb_76 (j := 10) (b := 49) rfl) rfl
theorem dL_law_1227 : decode cL_law 1227 = .ok (.istore 6, 2) := de_54 (lb_76 (j := 11) (b := 54) rfl) (lb_76 (j := 12) (b := 6) rfl) rfl
theorem dL_law_1229 : decode cL_law 1229 = .ok (.aload_n 2, 1) := de_44 (lb_76 (j := 13) (b := 44) rfl)
theorem dL_law_1230 : decode cL_law 1230 = .ok (.invokevirtual 308, 3) := de_182 (lb_76 (j := 14) (b := 182) rfl) (lb_76 (j := 15) (b := 1) rfl) (lb_77 (j := 0) (b := 52) rfl) rfl
theorem dL_law_1233 : decode cL_law 1233 = .ok (.fstore 7, 2) := de_56 (lb_77 (j := 1) (b := 56) rfl) (lb_77 (j := 2) (b := 7) rfl) rfl
theorem dL_law_1235 : decode cL_law 1235 = .ok (.goto 1204, 3) := de_167 (lb_77 (j := 3) (b := 167) rfl) (lb_77 (j := 4) (b := 4) rfl) (lb_77 (j := 5) (b := 180) rfl) (by decide +kernel)
theorem dL_law_1238 : decode cL_law 1238 = .ok (.aload_n 1, 1) := de_43 (lb_77 (j := 6) (b := 43) rfl)
theorem dL_law_1239 : decode cL_law 1239 = .ok (.aload_n 0, 1) := de_42 (lb_77 (j := 7) (b := 42) rfl)
theorem dL_law_1240 : decode cL_law 1240 = .ok (.iload 5, 2) := de_21 (lb_77 (j := 8) (b := 21) rfl) (lb_77 (j := 9) (b := 5) rfl) rfl
theorem dL_law_1242 : decode cL_law 1242 = .ok (.iconst 1, 1) := de_4 (lb_77 (j := 10) (b := 4) rfl)
theorem dL_law_1243 : decode cL_law 1243 = .ok (.iadd, 1) := de_96 (lb_77 (j := 11) (b := 96) rfl)
theorem dL_law_1244 : decode cL_law 1244 = .ok (.iaload, 1) := de_46 (lb_77 (j := 12) (b := 46) rfl)
theorem dL_law_1245 : decode cL_law 1245 = .ok (.aload_n 0, 1) := de_42 (lb_77 (j := 13) (b := 42) rfl)
theorem dL_law_1246 : decode cL_law 1246 = .ok (.iload 5, 2) := de_21 (lb_77 (j := 14) (b := 21) rfl) (lb_77 (j := 15) (b := 5) rfl) rfl
theorem dL_law_1248 : decode cL_law 1248 = .ok (.iconst 2, 1) := de_5 (lb_78 (j := 0) (b := 5) rfl)
theorem dL_law_1249 : decode cL_law 1249 = .ok (.iadd, 1) := de_96 (lb_78 (j := 1) (b := 96) rfl)
theorem dL_law_1250 : decode cL_law 1250 = .ok (.iaload, 1) := de_46 (lb_78 (j := 2) (b := 46) rfl)
theorem dL_law_1251 : decode cL_law 1251 = .ok (.aload_n 0, 1) := de_42 (lb_78 (j := 3) (b := 42) rfl)
theorem dL_law_1252 : decode cL_law 1252 = .ok (.iload 5, 2) := de_21 (lb_78 (j := 4) (b := 21) rfl) (lb_78 (j := 5) (b := 5) rfl) rfl
theorem dL_law_1254 : decode cL_law 1254 = .ok (.iconst 3, 1) := de_6 (lb_78 (j := 6) (b := 6) rfl)
theorem dL_law_1255 : decode cL_law 1255 = .ok (.iadd, 1) := de_96 (lb_78 (j := 7) (b := 96) rfl)
theorem dL_law_1256 : decode cL_law 1256 = .ok (.iaload, 1) := de_46 (lb_78 (j := 8) (b := 46) rfl)
theorem dL_law_1257 : decode cL_law 1257 = .ok (.aload_n 3, 1) := de_45 (lb_78 (j := 9) (b := 45) rfl)
theorem dL_law_1258 : decode cL_law 1258 = .ok (.invokestatic 309, 3) := de_184 (lb_78 (j := 10) (b := 184) rfl) (lb_78 (j := 11) (b := 1) rfl) (lb_78 (j := 12) (b := 53) rfl) rfl
theorem dL_law_1261 : decode cL_law 1261 = .ok (.istore 6, 2) := de_54 (lb_78 (j := 13) (b := 54) rfl) (lb_78 (j := 14) (b := 6) rfl) rfl
theorem dL_law_1263 : decode cL_law 1263 = .ok (.aload_n 2, 1) := de_44 (lb_78 (j := 15) (b := 44) rfl)
theorem dL_law_1264 : decode cL_law 1264 = .ok (.aload_n 0, 1) := de_42 (lb_79 (j := 0) (b := 42) rfl)
theorem dL_law_1265 : decode cL_law 1265 = .ok (.iload 5, 2) := de_21 (lb_79 (j := 1) (b := 21) rfl) (lb_79 (j := 2) (b := 5) rfl) rfl
theorem dL_law_1267 : decode cL_law 1267 = .ok (.iconst 1, 1) := de_4 (lb_79 (j := 3) (b := 4) rfl)
theorem dL_law_1268 : decode cL_law 1268 = .ok (.iadd, 1) := de_96 (lb_79 (j := 4) (b := 96) rfl)
theorem dL_law_1269 : decode cL_law 1269 = .ok (.iaload, 1) := de_46 (lb_79 (j := 5) (b := 46) rfl)
theorem dL_law_1270 : decode cL_law 1270 = .ok (.aload_n 0, 1) := de_42 (lb_79 (j := 6) (b := 42) rfl)
theorem dL_law_1271 : decode cL_law 1271 = .ok (.iload 5, 2) := de_21 (lb_79 (j := 7) (b := 21) rfl) (lb_79 (j := 8) (b := 5) rfl) rfl
theorem dL_law_1273 : decode cL_law 1273 = .ok (.iconst 2, 1) := de_5 (lb_79 (j := 9) (b := 5) rfl)
theorem dL_law_1274 : decode cL_law 1274 = .ok (.iadd, 1) := de_96 (lb_79 (j := 10) (b := 96) rfl)
theorem dL_law_1275 : decode cL_law 1275 = .ok (.iaload, 1) := de_46 (lb_79 (j := 11) (b := 46) rfl)
theorem dL_law_1276 : decode cL_law 1276 = .ok (.aload_n 0, 1) := de_42 (lb_79 (j := 12) (b := 42) rfl)
theorem dL_law_1277 : decode cL_law 1277 = .ok (.iload 5, 2) := de_21 (lb_79 (j := 13) (b := 21) rfl) (lb_79 (j := 14) (b := 5) rfl) rfl
theorem dL_law_1279 : decode cL_law 1279 = .ok (.iconst 3, 1) := de_6 (lb_79 (j := 15) (b := 6) rfl)
theorem dL_law_1280 : decode cL_law 1280 = .ok (.iadd, 1) := de_96 (lb_80 (j := 0) (b := 96) rfl)
theorem dL_law_1281 : decode cL_law 1281 = .ok (.iaload, 1) := de_46 (lb_80 (j := 1) (b := 46) rfl)
theorem dL_law_1282 : decode cL_law 1282 = .ok (.invokevirtual 311, 3) := de_182 (lb_80 (j := 2) (b := 182) rfl) (lb_80 (j := 3) (b := 1) rfl) (lb_80 (j := 4) (b := 55) rfl) rfl
theorem dL_law_1285 : decode cL_law 1285 = .ok (.istore 7, 2) := de_54 (lb_80 (j := 5) (b := 54) rfl) (lb_80 (j := 6) (b := 7) rfl) rfl
theorem dL_law_1287 : decode cL_law 1287 = .ok (.goto 1152, 3) := de_167 (lb_80 (j := 7) (b := 167) rfl) (lb_80 (j := 8) (b := 4) rfl) (lb_80 (j := 9) (b := 128) rfl) (by decide +kernel)
theorem dL_law_1290 : decode cL_law 1290 = .ok (.aload_n 1, 1) := de_43 (lb_80 (j := 10) (b := 43) rfl)
theorem dL_law_1291 : decode cL_law 1291 = .ok (.aload_n 0, 1) := de_42 (lb_80 (j := 11) (b := 42) rfl)
theorem dL_law_1292 : decode cL_law 1292 = .ok (.iload 5, 2) := de_21 (lb_80 (j := 12) (b := 21) rfl) (lb_80 (j := 13) (b := 5) rfl) rfl
theorem dL_law_1294 : decode cL_law 1294 = .ok (.iconst 1, 1) := de_4 (lb_80 (j := 14) (b := 4) rfl)
theorem dL_law_1295 : decode cL_law 1295 = .ok (.iadd, 1) := de_96 (lb_80 (j := 15) (b := 96) rfl)
theorem dL_law_1296 : decode cL_law 1296 = .ok (.iaload, 1) := de_46 (lb_81 (j := 0) (b := 46) rfl)
theorem dL_law_1297 : decode cL_law 1297 = .ok (.aload_n 0, 1) := de_42 (lb_81 (j := 1) (b := 42) rfl)
theorem dL_law_1298 : decode cL_law 1298 = .ok (.iload 5, 2) := de_21 (lb_81 (j := 2) (b := 21) rfl) (lb_81 (j := 3) (b := 5) rfl) rfl
theorem dL_law_1300 : decode cL_law 1300 = .ok (.iconst 2, 1) := de_5 (lb_81 (j := 4) (b := 5) rfl)
theorem dL_law_1301 : decode cL_law 1301 = .ok (.iadd, 1) := de_96 (lb_81 (j := 5) (b := 96) rfl)
theorem dL_law_1302 : decode cL_law 1302 = .ok (.iaload, 1) := de_46 (lb_81 (j := 6) (b := 46) rfl)
theorem dL_law_1303 : decode cL_law 1303 = .ok (.aload_n 0, 1) := de_42 (lb_81 (j := 7) (b := 42) rfl)
theorem dL_law_1304 : decode cL_law 1304 = .ok (.iload 5, 2) := de_21 (lb_81 (j := 8) (b := 21) rfl) (lb_81 (j := 9) (b := 5) rfl) rfl
theorem dL_law_1306 : decode cL_law 1306 = .ok (.iconst 3, 1) := de_6 (lb_81 (j := 10) (b := 6) rfl)
theorem dL_law_1307 : decode cL_law 1307 = .ok (.iadd, 1) := de_96 (lb_81 (j := 11) (b := 96) rfl)
theorem dL_law_1308 : decode cL_law 1308 = .ok (.iaload, 1) := de_46 (lb_81 (j := 12) (b := 46) rfl)
theorem dL_law_1309 : decode cL_law 1309 = .ok (.aload_n 3, 1) := de_45 (lb_81 (j := 13) (b := 45) rfl)
theorem dL_law_1310 : decode cL_law 1310 = .ok (.invokestatic 312, 3) := de_184 (lb_81 (j := 14) (b := 184) rfl) (lb_81 (j := 15) (b := 1) rfl) (lb_82 (j := 0) (b := 56) rfl) rfl
theorem dL_law_1313 : decode cL_law 1313 = .ok (.istore 6, 2) := de_54 (lb_82 (j := 1) (b := 54) rfl) (lb_82 (j := 2) (b := 6) rfl) rfl
theorem dL_law_1315 : decode cL_law 1315 = .ok (.aload_n 2, 1) := de_44 (lb_82 (j := 3) (b := 44) rfl)
theorem dL_law_1316 : decode cL_law 1316 = .ok (.aload_n 0, 1) := de_42 (lb_82 (j := 4) (b := 42) rfl)
theorem dL_law_1317 : decode cL_law 1317 = .ok (.iload 5, 2) := de_21 (lb_82 (j := 5) (b := 21) rfl) (lb_82 (j := 6) (b := 5) rfl) rfl
theorem dL_law_1319 : decode cL_law 1319 = .ok (.iconst 1, 1) := de_4 (lb_82 (j := 7) (b := 4) rfl)
theorem dL_law_1320 : decode cL_law 1320 = .ok (.iadd, 1) := de_96 (lb_82 (j := 8) (b := 96) rfl)
theorem dL_law_1321 : decode cL_law 1321 = .ok (.iaload, 1) := de_46 (lb_82 (j := 9) (b := 46) rfl)
theorem dL_law_1322 : decode cL_law 1322 = .ok (.aload_n 0, 1) := de_42 (lb_82 (j := 10) (b := 42) rfl)
theorem dL_law_1323 : decode cL_law 1323 = .ok (.iload 5, 2) := de_21 (lb_82 (j := 11) (b := 21) rfl) (lb_82 (j := 12) (b := 5) rfl) rfl
theorem dL_law_1325 : decode cL_law 1325 = .ok (.iconst 2, 1) := de_5 (lb_82 (j := 13) (b := 5) rfl)
theorem dL_law_1326 : decode cL_law 1326 = .ok (.iadd, 1) := de_96 (lb_82 (j := 14) (b := 96) rfl)
theorem dL_law_1327 : decode cL_law 1327 = .ok (.iaload, 1) := de_46 (lb_82 (j := 15) (b := 46) rfl)
theorem dL_law_1328 : decode cL_law 1328 = .ok (.aload_n 0, 1) := de_42 (lb_83 (j := 0) (b := 42) rfl)
theorem dL_law_1329 : decode cL_law 1329 = .ok (.iload 5, 2) := de_21 (lb_83 (j := 1) (b := 21) rfl) (lb_83 (j := 2) (b := 5) rfl) rfl
theorem dL_law_1331 : decode cL_law 1331 = .ok (.iconst 3, 1) := de_6 (lb_83 (j := 3) (b := 6) rfl)
theorem dL_law_1332 : decode cL_law 1332 = .ok (.iadd, 1) := de_96 (lb_83 (j := 4) (b := 96) rfl)
theorem dL_law_1333 : decode cL_law 1333 = .ok (.iaload, 1) := de_46 (lb_83 (j := 5) (b := 46) rfl)
theorem dL_law_1334 : decode cL_law 1334 = .ok (.invokevirtual 314, 3) := de_182 (lb_83 (j := 6) (b := 182) rfl) (lb_83 (j := 7) (b := 1) rfl) (lb_83 (j := 8) (b := 58) rfl) rfl
theorem dL_law_1337 : decode cL_law 1337 = .ok (.istore 7, 2) := de_54 (lb_83 (j := 9) (b := 54) rfl) (lb_83 (j := 10) (b := 7) rfl) rfl
theorem dL_law_1339 : decode cL_law 1339 = .ok (.goto 1100, 3) := de_167 (lb_83 (j := 11) (b := 167) rfl) (lb_83 (j := 12) (b := 4) rfl) (lb_83 (j := 13) (b := 76) rfl) (by decide +kernel)
theorem dL_law_1342 : decode cL_law 1342 = .ok (.aload_n 1, 1) := de_43 (lb_83 (j := 14) (b := 43) rfl)
theorem dL_law_1343 : decode cL_law 1343 = .ok (.aload_n 0, 1) := de_42 (lb_83 (j := 15) (b := 42) rfl)
theorem dL_law_1344 : decode cL_law 1344 = .ok (.iload 5, 2) := de_21 (lb_84 (j := 0) (b := 21) rfl) (lb_84 (j := 1) (b := 5) rfl) rfl
theorem dL_law_1346 : decode cL_law 1346 = .ok (.iconst 1, 1) := de_4 (lb_84 (j := 2) (b := 4) rfl)
theorem dL_law_1347 : decode cL_law 1347 = .ok (.iadd, 1) := de_96 (lb_84 (j := 3) (b := 96) rfl)
theorem dL_law_1348 : decode cL_law 1348 = .ok (.iaload, 1) := de_46 (lb_84 (j := 4) (b := 46) rfl)
theorem dL_law_1349 : decode cL_law 1349 = .ok (.aload_n 0, 1) := de_42 (lb_84 (j := 5) (b := 42) rfl)
theorem dL_law_1350 : decode cL_law 1350 = .ok (.iload 5, 2) := de_21 (lb_84 (j := 6) (b := 21) rfl) (lb_84 (j := 7) (b := 5) rfl) rfl
theorem dL_law_1352 : decode cL_law 1352 = .ok (.iconst 2, 1) := de_5 (lb_84 (j := 8) (b := 5) rfl)
theorem dL_law_1353 : decode cL_law 1353 = .ok (.iadd, 1) := de_96 (lb_84 (j := 9) (b := 96) rfl)
theorem dL_law_1354 : decode cL_law 1354 = .ok (.iaload, 1) := de_46 (lb_84 (j := 10) (b := 46) rfl)
theorem dL_law_1355 : decode cL_law 1355 = .ok (.aload_n 3, 1) := de_45 (lb_84 (j := 11) (b := 45) rfl)
theorem dL_law_1356 : decode cL_law 1356 = .ok (.invokestatic 315, 3) := de_184 (lb_84 (j := 12) (b := 184) rfl) (lb_84 (j := 13) (b := 1) rfl) (lb_84 (j := 14) (b := 59) rfl) rfl
theorem dL_law_1359 : decode cL_law 1359 = .ok (.istore 6, 2) := de_54 (lb_84 (j := 15) (b := 54) rfl) (lb_85 (j := 0) (b := 6) rfl) rfl
theorem dL_law_1361 : decode cL_law 1361 = .ok (.aload_n 2, 1) := de_44 (lb_85 (j := 1) (b := 44) rfl)
theorem dL_law_1362 : decode cL_law 1362 = .ok (.aload_n 0, 1) := de_42 (lb_85 (j := 2) (b := 42) rfl)
theorem dL_law_1363 : decode cL_law 1363 = .ok (.iload 5, 2) := de_21 (lb_85 (j := 3) (b := 21) rfl) (lb_85 (j := 4) (b := 5) rfl) rfl
theorem dL_law_1365 : decode cL_law 1365 = .ok (.iconst 1, 1) := de_4 (lb_85 (j := 5) (b := 4) rfl)
theorem dL_law_1366 : decode cL_law 1366 = .ok (.iadd, 1) := de_96 (lb_85 (j := 6) (b := 96) rfl)
theorem dL_law_1367 : decode cL_law 1367 = .ok (.iaload, 1) := de_46 (lb_85 (j := 7) (b := 46) rfl)
theorem dL_law_1368 : decode cL_law 1368 = .ok (.aload_n 0, 1) := de_42 (lb_85 (j := 8) (b := 42) rfl)
theorem dL_law_1369 : decode cL_law 1369 = .ok (.iload 5, 2) := de_21 (lb_85 (j := 9) (b := 21) rfl) (lb_85 (j := 10) (b := 5) rfl) rfl
theorem dL_law_1371 : decode cL_law 1371 = .ok (.iconst 2, 1) := de_5 (lb_85 (j := 11) (b := 5) rfl)
theorem dL_law_1372 : decode cL_law 1372 = .ok (.iadd, 1) := de_96 (lb_85 (j := 12) (b := 96) rfl)
theorem dL_law_1373 : decode cL_law 1373 = .ok (.iaload, 1) := de_46 (lb_85 (j := 13) (b := 46) rfl)
theorem dL_law_1374 : decode cL_law 1374 = .ok (.invokevirtual 317, 3) := de_182 (lb_85 (j := 14) (b := 182) rfl) (lb_85 (j := 15) (b := 1) rfl) (lb_86 (j := 0) (b := 61) rfl) rfl
theorem dL_law_1377 : decode cL_law 1377 = .ok (.istore 7, 2) := de_54 (lb_86 (j := 1) (b := 54) rfl) (lb_86 (j := 2) (b := 7) rfl) rfl
theorem dL_law_1379 : decode cL_law 1379 = .ok (.goto 1060, 3) := de_167 (lb_86 (j := 3) (b := 167) rfl) (lb_86 (j := 4) (b := 4) rfl) (lb_86 (j := 5) (b := 36) rfl) (by decide +kernel)
theorem dL_law_1382 : decode cL_law 1382 = .ok (.aload_n 1, 1) := de_43 (lb_86 (j := 6) (b := 43) rfl)
theorem dL_law_1383 : decode cL_law 1383 = .ok (.aload_n 0, 1) := de_42 (lb_86 (j := 7) (b := 42) rfl)
theorem dL_law_1384 : decode cL_law 1384 = .ok (.iload 5, 2) := de_21 (lb_86 (j := 8) (b := 21) rfl) (lb_86 (j := 9) (b := 5) rfl) rfl
theorem dL_law_1386 : decode cL_law 1386 = .ok (.iconst 1, 1) := de_4 (lb_86 (j := 10) (b := 4) rfl)
theorem dL_law_1387 : decode cL_law 1387 = .ok (.iadd, 1) := de_96 (lb_86 (j := 11) (b := 96) rfl)
theorem dL_law_1388 : decode cL_law 1388 = .ok (.iaload, 1) := de_46 (lb_86 (j := 12) (b := 46) rfl)
theorem dL_law_1389 : decode cL_law 1389 = .ok (.aload_n 0, 1) := de_42 (lb_86 (j := 13) (b := 42) rfl)
theorem dL_law_1390 : decode cL_law 1390 = .ok (.iload 5, 2) := de_21 (lb_86 (j := 14) (b := 21) rfl) (lb_86 (j := 15) (b := 5) rfl) rfl
theorem dL_law_1392 : decode cL_law 1392 = .ok (.iconst 2, 1) := de_5 (lb_87 (j := 0) (b := 5) rfl)
theorem dL_law_1393 : decode cL_law 1393 = .ok (.iadd, 1) := de_96 (lb_87 (j := 1) (b := 96) rfl)
theorem dL_law_1394 : decode cL_law 1394 = .ok (.iaload, 1) := de_46 (lb_87 (j := 2) (b := 46) rfl)
theorem dL_law_1395 : decode cL_law 1395 = .ok (.aload_n 0, 1) := de_42 (lb_87 (j := 3) (b := 42) rfl)
theorem dL_law_1396 : decode cL_law 1396 = .ok (.iload 5, 2) := de_21 (lb_87 (j := 4) (b := 21) rfl) (lb_87 (j := 5) (b := 5) rfl) rfl
theorem dL_law_1398 : decode cL_law 1398 = .ok (.iconst 3, 1) := de_6 (lb_87 (j := 6) (b := 6) rfl)
theorem dL_law_1399 : decode cL_law 1399 = .ok (.iadd, 1) := de_96 (lb_87 (j := 7) (b := 96) rfl)
theorem dL_law_1400 : decode cL_law 1400 = .ok (.iaload, 1) := de_46 (lb_87 (j := 8) (b := 46) rfl)
theorem dL_law_1401 : decode cL_law 1401 = .ok (.aload_n 3, 1) := de_45 (lb_87 (j := 9) (b := 45) rfl)
theorem dL_law_1402 : decode cL_law 1402 = .ok (.invokestatic 318, 3) := de_184 (lb_87 (j := 10) (b := 184) rfl) (lb_87 (j := 11) (b := 1) rfl) (lb_87 (j := 12) (b := 62) rfl) rfl
theorem dL_law_1405 : decode cL_law 1405 = .ok (.istore 6, 2) := de_54 (lb_87 (j := 13) (b := 54) rfl) (lb_87 (j := 14) (b := 6) rfl) rfl
theorem dL_law_1407 : decode cL_law 1407 = .ok (.aload_n 2, 1) := de_44 (lb_87 (j := 15) (b := 44) rfl)
theorem dL_law_1408 : decode cL_law 1408 = .ok (.aload_n 0, 1) := de_42 (lb_88 (j := 0) (b := 42) rfl)
theorem dL_law_1409 : decode cL_law 1409 = .ok (.iload 5, 2) := de_21 (lb_88 (j := 1) (b := 21) rfl) (lb_88 (j := 2) (b := 5) rfl) rfl
theorem dL_law_1411 : decode cL_law 1411 = .ok (.iconst 1, 1) := de_4 (lb_88 (j := 3) (b := 4) rfl)
theorem dL_law_1412 : decode cL_law 1412 = .ok (.iadd, 1) := de_96 (lb_88 (j := 4) (b := 96) rfl)
theorem dL_law_1413 : decode cL_law 1413 = .ok (.iaload, 1) := de_46 (lb_88 (j := 5) (b := 46) rfl)
theorem dL_law_1414 : decode cL_law 1414 = .ok (.aload_n 0, 1) := de_42 (lb_88 (j := 6) (b := 42) rfl)
theorem dL_law_1415 : decode cL_law 1415 = .ok (.iload 5, 2) := de_21 (lb_88 (j := 7) (b := 21) rfl) (lb_88 (j := 8) (b := 5) rfl) rfl
theorem dL_law_1417 : decode cL_law 1417 = .ok (.iconst 2, 1) := de_5 (lb_88 (j := 9) (b := 5) rfl)
theorem dL_law_1418 : decode cL_law 1418 = .ok (.iadd, 1) := de_96 (lb_88 (j := 10) (b := 96) rfl)
theorem dL_law_1419 : decode cL_law 1419 = .ok (.iaload, 1) := de_46 (lb_88 (j := 11) (b := 46) rfl)
theorem dL_law_1420 : decode cL_law 1420 = .ok (.aload_n 0, 1) := de_42 (lb_88 (j := 12) (b := 42) rfl)
theorem dL_law_1421 : decode cL_law 1421 = .ok (.iload 5, 2) := de_21 (lb_88 (j := 13) (b := 21) rfl) (lb_88 (j := 14) (b := 5) rfl) rfl
theorem dL_law_1423 : decode cL_law 1423 = .ok (.iconst 3, 1) := de_6 (lb_88 (j := 15) (b := 6) rfl)
theorem dL_law_1424 : decode cL_law 1424 = .ok (.iadd, 1) := de_96 (lb_89 (j := 0) (b := 96) rfl)
theorem dL_law_1425 : decode cL_law 1425 = .ok (.iaload, 1) := de_46 (lb_89 (j := 1) (b := 46) rfl)
theorem dL_law_1426 : decode cL_law 1426 = .ok (.invokevirtual 320, 3) := de_182 (lb_89 (j := 2) (b := 182) rfl) (lb_89 (j := 3) (b := 1) rfl) (lb_89 (j := 4) (b := 64) rfl) rfl
theorem dL_law_1429 : decode cL_law 1429 = .ok (.lstore 7, 2) := de_55 (lb_89 (j := 5) (b := 55) rfl) (lb_89 (j := 6) (b := 7) rfl) rfl
theorem dL_law_1431 : decode cL_law 1431 = .ok (.goto 1008, 3) := de_167 (lb_89 (j := 7) (b := 167) rfl) (lb_89 (j := 8) (b := 3) rfl) (lb_89 (j := 9) (b := 240) rfl) (by decide +kernel)
theorem dL_law_1434 : decode cL_law 1434 = .ok (.aload_n 1, 1) := de_43 (lb_89 (j := 10) (b := 43) rfl)
theorem dL_law_1435 : decode cL_law 1435 = .ok (.aload_n 0, 1) := de_42 (lb_89 (j := 11) (b := 42) rfl)
theorem dL_law_1436 : decode cL_law 1436 = .ok (.iload 5, 2) := de_21 (lb_89 (j := 12) (b := 21) rfl) (lb_89 (j := 13) (b := 5) rfl) rfl
theorem dL_law_1438 : decode cL_law 1438 = .ok (.iconst 1, 1) := de_4 (lb_89 (j := 14) (b := 4) rfl)
theorem dL_law_1439 : decode cL_law 1439 = .ok (.iadd, 1) := de_96 (lb_89 (j := 15) (b := 96) rfl)
theorem dL_law_1440 : decode cL_law 1440 = .ok (.iaload, 1) := de_46 (lb_90 (j := 0) (b := 46) rfl)
theorem dL_law_1441 : decode cL_law 1441 = .ok (.aload_n 0, 1) := de_42 (lb_90 (j := 1) (b := 42) rfl)
theorem dL_law_1442 : decode cL_law 1442 = .ok (.iload 5, 2) := de_21 (lb_90 (j := 2) (b := 21) rfl) (lb_90 (j := 3) (b := 5) rfl) rfl
theorem dL_law_1444 : decode cL_law 1444 = .ok (.iconst 2, 1) := de_5 (lb_90 (j := 4) (b := 5) rfl)
theorem dL_law_1445 : decode cL_law 1445 = .ok (.iadd, 1) := de_96 (lb_90 (j := 5) (b := 96) rfl)
theorem dL_law_1446 : decode cL_law 1446 = .ok (.iaload, 1) := de_46 (lb_90 (j := 6) (b := 46) rfl)
theorem dL_law_1447 : decode cL_law 1447 = .ok (.aload_n 3, 1) := de_45 (lb_90 (j := 7) (b := 45) rfl)
theorem dL_law_1448 : decode cL_law 1448 = .ok (.invokestatic 321, 3) := de_184 (lb_90 (j := 8) (b := 184) rfl) (lb_90 (j := 9) (b := 1) rfl) (lb_90 (j := 10) (b := 65) rfl) rfl
theorem dL_law_1451 : decode cL_law 1451 = .ok (.istore 6, 2) := de_54 (lb_90 (j := 11) (b := 54) rfl) (lb_90 (j := 12) (b := 6) rfl) rfl
theorem dL_law_1453 : decode cL_law 1453 = .ok (.aload_n 2, 1) := de_44 (lb_90 (j := 13) (b := 44) rfl)
theorem dL_law_1454 : decode cL_law 1454 = .ok (.aload_n 0, 1) := de_42 (lb_90 (j := 14) (b := 42) rfl)
theorem dL_law_1455 : decode cL_law 1455 = .ok (.iload 5, 2) := de_21 (lb_90 (j := 15) (b := 21) rfl) (lb_91 (j := 0) (b := 5) rfl) rfl
theorem dL_law_1457 : decode cL_law 1457 = .ok (.iconst 1, 1) := de_4 (lb_91 (j := 1) (b := 4) rfl)
theorem dL_law_1458 : decode cL_law 1458 = .ok (.iadd, 1) := de_96 (lb_91 (j := 2) (b := 96) rfl)
theorem dL_law_1459 : decode cL_law 1459 = .ok (.iaload, 1) := de_46 (lb_91 (j := 3) (b := 46) rfl)
theorem dL_law_1460 : decode cL_law 1460 = .ok (.aload_n 0, 1) := de_42 (lb_91 (j := 4) (b := 42) rfl)
theorem dL_law_1461 : decode cL_law 1461 = .ok (.iload 5, 2) := de_21 (lb_91 (j := 5) (b := 21) rfl) (lb_91 (j := 6) (b := 5) rfl) rfl
theorem dL_law_1463 : decode cL_law 1463 = .ok (.iconst 2, 1) := de_5 (lb_91 (j := 7) (b := 5) rfl)
theorem dL_law_1464 : decode cL_law 1464 = .ok (.iadd, 1) := de_96 (lb_91 (j := 8) (b := 96) rfl)
theorem dL_law_1465 : decode cL_law 1465 = .ok (.iaload, 1) := de_46 (lb_91 (j := 9) (b := 46) rfl)
theorem dL_law_1466 : decode cL_law 1466 = .ok (.invokevirtual 323, 3) := de_182 (lb_91 (j := 10) (b := 182) rfl) (lb_91 (j := 11) (b := 1) rfl) (lb_91 (j := 12) (b := 67) rfl) rfl
theorem dL_law_1469 : decode cL_law 1469 = .ok (.istore 7, 2) := de_54 (lb_91 (j := 13) (b := 54) rfl) (lb_91 (j := 14) (b := 7) rfl) rfl
theorem dL_law_1471 : decode cL_law 1471 = .ok (.goto 968, 3) := de_167 (lb_91 (j := 15) (b := 167) rfl) (lb_92 (j := 0) (b := 3) rfl) (lb_92 (j := 1) (b := 200) rfl) (by decide +kernel)
theorem dL_law_1474 : decode cL_law 1474 = .ok (.aload_n 1, 1) := de_43 (lb_92 (j := 2) (b := 43) rfl)
theorem dL_law_1475 : decode cL_law 1475 = .ok (.aload_n 0, 1) := de_42 (lb_92 (j := 3) (b := 42) rfl)
theorem dL_law_1476 : decode cL_law 1476 = .ok (.iload 5, 2) := de_21 (lb_92 (j := 4) (b := 21) rfl) (lb_92 (j := 5) (b := 5) rfl) rfl
theorem dL_law_1478 : decode cL_law 1478 = .ok (.iconst 1, 1) := de_4 (lb_92 (j := 6) (b := 4) rfl)
theorem dL_law_1479 : decode cL_law 1479 = .ok (.iadd, 1) := de_96 (lb_92 (j := 7) (b := 96) rfl)
theorem dL_law_1480 : decode cL_law 1480 = .ok (.iaload, 1) := de_46 (lb_92 (j := 8) (b := 46) rfl)
theorem dL_law_1481 : decode cL_law 1481 = .ok (.aload_n 3, 1) := de_45 (lb_92 (j := 9) (b := 45) rfl)
theorem dL_law_1482 : decode cL_law 1482 = .ok (.invokestatic 324, 3) := de_184 (lb_92 (j := 10) (b := 184) rfl) (lb_92 (j := 11) (b := 1) rfl) (lb_92 (j := 12) (b := 68) rfl) rfl
theorem dL_law_1485 : decode cL_law 1485 = .ok (.istore 6, 2) := de_54 (lb_92 (j := 13) (b := 54) rfl) (lb_92 (j := 14) (b := 6) rfl) rfl
theorem dL_law_1487 : decode cL_law 1487 = .ok (.aload_n 2, 1) := de_44 (lb_92 (j := 15) (b := 44) rfl)
theorem dL_law_1488 : decode cL_law 1488 = .ok (.aload_n 0, 1) := de_42 (lb_93 (j := 0) (b := 42) rfl)
theorem dL_law_1489 : decode cL_law 1489 = .ok (.iload 5, 2) := de_21 (lb_93 (j := 1) (b := 21) rfl) (lb_93 (j := 2) (b := 5) rfl) rfl
theorem dL_law_1491 : decode cL_law 1491 = .ok (.iconst 1, 1) := de_4 (lb_93 (j := 3) (b := 4) rfl)
theorem dL_law_1492 : decode cL_law 1492 = .ok (.iadd, 1) := de_96 (lb_93 (j := 4) (b := 96) rfl)
theorem dL_law_1493 : decode cL_law 1493 = .ok (.iaload, 1) := de_46 (lb_93 (j := 5) (b := 46) rfl)
theorem dL_law_1494 : decode cL_law 1494 = .ok (.invokevirtual 326, 3) := de_182 (lb_93 (j := 6) (b := 182) rfl) (lb_93 (j := 7) (b := 1) rfl) (lb_93 (j := 8) (b := 70) rfl) rfl
theorem dL_law_1497 : decode cL_law 1497 = .ok (.istore 7, 2) := de_54 (lb_93 (j := 9) (b := 54) rfl) (lb_93 (j := 10) (b := 7) rfl) rfl
theorem dL_law_1499 : decode cL_law 1499 = .ok (.goto 940, 3) := de_167 (lb_93 (j := 11) (b := 167) rfl) (lb_93 (j := 12) (b := 3) rfl) (lb_93 (j := 13) (b := 172) rfl) (by decide +kernel)
theorem dL_law_1502 : decode cL_law 1502 = .ok (.aload_n 1, 1) := de_43 (lb_93 (j := 14) (b := 43) rfl)
theorem dL_law_1503 : decode cL_law 1503 = .ok (.aload_n 0, 1) := de_42 (lb_93 (j := 15) (b := 42) rfl)
theorem dL_law_1504 : decode cL_law 1504 = .ok (.iload 5, 2) := de_21 (lb_94 (j := 0) (b := 21) rfl) (lb_94 (j := 1) (b := 5) rfl) rfl
theorem dL_law_1506 : decode cL_law 1506 = .ok (.iconst 1, 1) := de_4 (lb_94 (j := 2) (b := 4) rfl)
theorem dL_law_1507 : decode cL_law 1507 = .ok (.iadd, 1) := de_96 (lb_94 (j := 3) (b := 96) rfl)
theorem dL_law_1508 : decode cL_law 1508 = .ok (.iaload, 1) := de_46 (lb_94 (j := 4) (b := 46) rfl)
theorem dL_law_1509 : decode cL_law 1509 = .ok (.aload_n 3, 1) := de_45 (lb_94 (j := 5) (b := 45) rfl)
theorem dL_law_1510 : decode cL_law 1510 = .ok (.invokestatic 327, 3) := de_184 (lb_94 (j := 6) (b := 184) rfl) (lb_94 (j := 7) (b := 1) rfl) (lb_94 (j := 8) (b := 71) rfl) rfl
theorem dL_law_1513 : decode cL_law 1513 = .ok (.istore 6, 2) := de_54 (lb_94 (j := 9) (b := 54) rfl) (lb_94 (j := 10) (b := 6) rfl) rfl
theorem dL_law_1515 : decode cL_law 1515 = .ok (.aload_n 2, 1) := de_44 (lb_94 (j := 11) (b := 44) rfl)
theorem dL_law_1516 : decode cL_law 1516 = .ok (.aload_n 0, 1) := de_42 (lb_94 (j := 12) (b := 42) rfl)
theorem dL_law_1517 : decode cL_law 1517 = .ok (.iload 5, 2) := de_21 (lb_94 (j := 13) (b := 21) rfl) (lb_94 (j := 14) (b := 5) rfl) rfl
theorem dL_law_1519 : decode cL_law 1519 = .ok (.iconst 1, 1) := de_4 (lb_94 (j := 15) (b := 4) rfl)
theorem dL_law_1520 : decode cL_law 1520 = .ok (.iadd, 1) := de_96 (lb_95 (j := 0) (b := 96) rfl)
theorem dL_law_1521 : decode cL_law 1521 = .ok (.iaload, 1) := de_46 (lb_95 (j := 1) (b := 46) rfl)
theorem dL_law_1522 : decode cL_law 1522 = .ok (.invokevirtual 329, 3) := de_182 (lb_95 (j := 2) (b := 182) rfl) (lb_95 (j := 3) (b := 1) rfl) (lb_95 (j := 4) (b := 73) rfl) rfl
theorem dL_law_1525 : decode cL_law 1525 = .ok (.lstore 7, 2) := de_55 (lb_95 (j := 5) (b := 55) rfl) (lb_95 (j := 6) (b := 7) rfl) rfl
theorem dL_law_1527 : decode cL_law 1527 = .ok (.goto 912, 3) := de_167 (lb_95 (j := 7) (b := 167) rfl) (lb_95 (j := 8) (b := 3) rfl) (lb_95 (j := 9) (b := 144) rfl) (by decide +kernel)
set_option maxHeartbeats 4000000 in
set_option maxRecDepth 100000 in
theorem y_a32 {p : Program} {e : Env} {s : State} {m : MethodId} {below : List Frame} {meth : Method} {c : Code} (l : Launch) (hst : l.stackTraces = false) {b L : Nat} {xs : Nat → Int32} (hx : p.tables.exec = Jvm.exec) (hb : c.code = code) (hml : c.maxLocals = 9) (hown : s.vm.findClass RL = some m.cls) (hts : ∀ w ∈ lw_tbl, w.before #[Value.ref b] s = true) (hX0 : va_X b L xs s s.heap) (hbl : b < s.heap.size) (hX : xT (fun q => s.heap.size ≤ q) s) (hN : nC s) (hTS : sAll s.heap.size s) {D : va_G} {cI cJ cZ cMic cSrc cSt cAI cAJ cD : ClassId} (hK : va_K D vwCl (CT cI cJ cZ cMic cSrc cSt cAI cAJ ++ [(cD, .double)]) s) {Q : State → Prop} {i j : Nat} (hi : i + 6 ≤ L) (hL : L ≤ 3072) (hj : j < 512) {aj ae : Nat} {ad am : Nat → Nat} {T : AT} {Sm : MS} {f : Nat → Int64} {g : Nat → UInt64} {ls : Array Slot} {H : Heap} {locs : List Loc} (hV : IV aR0 1586 aK1 aK2 T) (hrc : RC T) (hJ : JJ Sm) (G : gL cI cJ cZ cMic cSrc cSt cAI cAJ D ad (fun q => s.heap.size ≤ q) s.heap H locs T (oJ aj cJ f :: oD ae cD g :: MW cI cJ cZ am Sm)) (hl : lv_has ls 9 [(5, .int (nI i)), (4, .ref ae), (3, .ref aj), (2, .ref (am 0)), (1, .ref (ad 0)), (0, .ref b)]) (kk : ∀ {k1 : Nat} {r1 : UInt32} {T1 : AT} {r2 : UInt32} {S1 : MS} (ad2 : Nat → Nat) (f1 : Nat → Int64) (g1 : Nat → UInt64) (H1 : Heap) (locs1 : List Loc) (ls1 : Array Slot), g_X11_contrast T 0 = some (k1, r1, T1) → fr_contrast Sm = some (r2, S1) → ad2 0 = ad 0 → IV aR0 1586 aK1 aK2 T1 → RC T1 → JJ S1 → gL cI cJ cZ cMic cSrc cSt cAI cAJ D ad2 (fun q => s.heap.size ≤ q) s.heap H1 locs1 T1 (oJ aj cJ f1 :: oD ae cD g1 :: MW cI cJ cZ am S1) → lv_has ls1 9 [(5, .int (nI i)), (4, .ref ae), (3, .ref aj), (2, .ref (am 0)), (1, .ref (ad2 0)), (0, .ref b)] → W p l e room_1 s m #[Value.ref b] below meth c H1 locs1 (19 + T1.1 + (j + 1)) (38467 + sg T1 + 6 * (j + 1)) Q (F0 m 2439 ls1 [])) : W p l e room_1 s m #[Value.ref b] below meth c H locs (19 + T.1 + j) (38467 + sg T + 6 * j) Q (F0 m 1221 ls []) := by
  have E : cE p c cL_law s m #[Value.ref b] lw_tbl D RL (CT cI cJ cZ cMic cSrc cSt cAI cAJ ++ [(cD, .double)]) := ⟨hx, hb, hts, hown, hK⟩
  have hA : ∀ q : Nat, s.heap.size ≤ q → s.heap.size ≤ q := fun _ h => h
  have h0T : 0 < T.1 := Nat.lt_of_lt_of_le (by decide) hV.1.2.2
  have h0s : T.2.1 0 = (11, 0) := hV.2.1 0 ⟨by decide, by decide +kernel, by decide +kernel⟩
  refine lv_aload_n hx hb dL_law_1221 rfl (lv_at hl 4 rfl) ?_
  refine lv_aload hx hb dL_law_1222 (lv_at hl 1 rfl) ?_
  obtain ⟨⟨k1, r1, T1⟩, hg, hc⟩ := cs_X11_contrast T 0 hV (by decide +kernel)
  have hV1 : IV aR0 1586 aK1 aK2 T1 := hc.1.1
  have hg1 := s_X11_contrast hg
  have hg2 := sg_le hg1
  have hg3 := hg1.1
  have hk := hV1.2.2.2.2.2.2
  have hrc1 := hg1.2.2 hrc
  have hr0 := a_room
  have G := gL_swap G
  refine l_v (h0 := s.heap.size) (As := [.ref (ad 0), .ref ae]) (rest := []) E G hA hX hN (fun _ h => h) hTS hml (v_contrast l hst D s.heap.size ad T 0  ae g nn_contrast hg hrc h0T h0s) (vx_cwSW 2 hts (glA (L := [Cond.methodLink RL 305 yL_contrast, Cond.static yL_contrast, Cond.initialized RL]) (gl_in [(6, 97), (6, 98), (1, 0)] (by decide +kernel) (by decide +kernel)) ⟨(t_of [Cond.codeWith yL_contrast cL_contrast 3 (some .int) [(0, 8, 11, 21)]] [(6, 99)] (by decide +kernel) _ List.mem_cons_self), List.all_eq_true.mp (by decide +kernel : [Cond.codeWith yL_contrast cL_contrast 3 (some .int) [(0, 8, 11, 21)]].all goodWord = true) _ List.mem_cons_self⟩) rfl rfl rfl (by decide +kernel) ⟨Nat.le_of_ble_eq_true rfl, Nat.le_of_ble_eq_true rfl⟩) rfl hl.1 rfl (lv_room (Nat.le_of_ble_eq_true rfl)) dL_law_1224 ⟨by show _ ≤ 601024; omega, by show _ ≤ 7293034; omega⟩ ?_
  intro ad2 H locs had G
  have G := gL_swap G
  rw [← had 0 h0T] at hl
  refine lv_istore (lv' := [(6, .int (vck 1 0 0 k1)), (5, .int (nI i)), (4, .ref ae), (3, .ref aj), (2, .ref (am 0)), (1, .ref (ad2 0)), (0, .ref b)]) hx hb dL_law_1227 hl (by decide) rfl (fun ls hl => ?_)
  refine lv_aload_n hx hb dL_law_1229 rfl (lv_at hl 4 rfl) ?_
  obtain ⟨⟨r2, S1⟩, hf, hj⟩ := sj_contrast Sm hJ
  have hJ1 : JJ S1 := hj
  refine y_mf (As := []) (rest := []) E G hA hX.2.2.2.2 hml (tr_contrast l D cI cJ cZ am Sm  hf) (cwV 0 hts (glM (L := [Cond.methodLink RL 308 yX12_contrast, Cond.instanceMethod yX12_contrast, Cond.selects RX12 yX12_contrast yX12_contrast, Cond.initialized RX12]) (gl_in [(9, 220), (9, 221), (9, 222), (1, 14)] (by decide +kernel) (by decide +kernel)) ⟨(t_of [Cond.code yX12_contrast cX12_contrast 5 (some .float)] [(9, 223)] (by decide +kernel) _ List.mem_cons_self), List.all_eq_true.mp (by decide +kernel : [Cond.code yX12_contrast cX12_contrast 5 (some .float)].all goodWord = true) _ List.mem_cons_self⟩) rfl rfl rfl (by decide +kernel) ⟨Nat.le_of_ble_eq_true rfl, Nat.le_of_ble_eq_true rfl⟩) rfl hl.1 rfl (lv_room (Nat.le_of_ble_eq_true rfl)) dL_law_1230 ⟨by show _ ≤ 601024; omega, by show _ ≤ 7293034; omega⟩ (fun H locs G => ?_)
  refine lv_fstore (lv' := [(7, .float r2), (6, .int (vck 1 0 0 k1)), (5, .int (nI i)), (4, .ref ae), (3, .ref aj), (2, .ref (am 0)), (1, .ref (ad2 0)), (0, .ref b)]) hx hb dL_law_1233 hl (by decide) rfl (fun ls hl => ?_)
  refine lv_goto (tgt := 2439) hx hb dL_law_1235 (by decide) ?_
  have hl := lv_sub hl [2, 3, 4, 5, 6, 7] rfl
  refine W.widen (k := 19 + T1.1 + (j + 1)) (n := 38467 + sg T1 + 6 * (j + 1)) (by omega) (by omega) ?_
  exact kk ad2 f (vfD k1 g (FP.f2d r1)) H locs ls hg hf (had 0 h0T) hV1 hrc1 hJ1 G hl
set_option maxHeartbeats 4000000 in
set_option maxRecDepth 100000 in
theorem y_a33 {p : Program} {e : Env} {s : State} {m : MethodId} {below : List Frame} {meth : Method} {c : Code} (l : Launch) (hst : l.stackTraces = false) {b L : Nat} {xs : Nat → Int32} (hx : p.tables.exec = Jvm.exec) (hb : c.code = code) (hml : c.maxLocals = 9) (hown : s.vm.findClass RL = some m.cls) (hts : ∀ w ∈ lw_tbl, w.before #[Value.ref b] s = true) (hX0 : va_X b L xs s s.heap) (hbl : b < s.heap.size) (hX : xT (fun q => s.heap.size ≤ q) s) (hN : nC s) (hTS : sAll s.heap.size s) {D : va_G} {cI cJ cZ cMic cSrc cSt cAI cAJ cD : ClassId} (hK : va_K D vwCl (CT cI cJ cZ cMic cSrc cSt cAI cAJ ++ [(cD, .double)]) s) {Q : State → Prop} {i j : Nat} (hi : i + 6 ≤ L) (hL : L ≤ 3072) (hj : j < 512) {aj ae : Nat} {ad am : Nat → Nat} {T : AT} {Sm : MS} {f : Nat → Int64} {g : Nat → UInt64} {ls : Array Slot} {H : Heap} {locs : List Loc} (hV : IV aR0 1586 aK1 aK2 T) (hrc : RC T) (hJ : JJ Sm) (G : gL cI cJ cZ cMic cSrc cSt cAI cAJ D ad (fun q => s.heap.size ≤ q) s.heap H locs T (oJ aj cJ f :: oD ae cD g :: MW cI cJ cZ am Sm)) (hl : lv_has ls 9 [(5, .int (nI i)), (4, .ref ae), (3, .ref aj), (2, .ref (am 0)), (1, .ref (ad 0)), (0, .ref b)]) (kk : ∀ {k1 : Nat} {r1 : Int32} {T1 : AT} {r2 : Int32} {S1 : MS} (ad2 : Nat → Nat) (f1 : Nat → Int64) (g1 : Nat → UInt64) (H1 : Heap) (locs1 : List Loc) (ls1 : Array Slot), g_X11_alias T 0 (xs (i + 1)) (xs (i + 2)) (xs (i + 3)) = some (k1, r1, T1) → fr_alias Sm (xs (i + 1)) (xs (i + 2)) (xs (i + 3)) = some (r2, S1) → ad2 0 = ad 0 → IV aR0 1586 aK1 aK2 T1 → RC T1 → JJ S1 → gL cI cJ cZ cMic cSrc cSt cAI cAJ D ad2 (fun q => s.heap.size ≤ q) s.heap H1 locs1 T1 (oJ aj cJ f1 :: oD ae cD g1 :: MW cI cJ cZ am S1) → lv_has ls1 9 [(5, .int (nI i)), (4, .ref ae), (3, .ref aj), (2, .ref (am 0)), (1, .ref (ad2 0)), (0, .ref b)] → W p l e room_1 s m #[Value.ref b] below meth c H1 locs1 (19 + T1.1 + (j + 1)) (38467 + sg T1 + 6 * (j + 1)) Q (F0 m 2439 ls1 [])) : W p l e room_1 s m #[Value.ref b] below meth c H locs (19 + T.1 + j) (38467 + sg T + 6 * j) Q (F0 m 1238 ls []) := by
  have E : cE p c cL_law s m #[Value.ref b] lw_tbl D RL (CT cI cJ cZ cMic cSrc cSt cAI cAJ ++ [(cD, .double)]) := ⟨hx, hb, hts, hown, hK⟩
  have hA : ∀ q : Nat, s.heap.size ≤ q → s.heap.size ≤ q := fun _ h => h
  have h0T : 0 < T.1 := Nat.lt_of_lt_of_le (by decide) hV.1.2.2
  have h0s : T.2.1 0 = (11, 0) := hV.2.1 0 ⟨by decide, by decide +kernel, by decide +kernel⟩
  refine lv_aload_n hx hb dL_law_1238 rfl (lv_at hl 4 rfl) ?_
  refine lv_aload_n hx hb dL_law_1239 rfl (lv_at hl 5 rfl) ?_
  refine lv_iload hx hb dL_law_1240 (lv_at hl 0 rfl) ?_
  refine lv_iconst (v := 1) hx hb dL_law_1242 (by decide) ?_
  refine lv_iadd hx hb dL_law_1243 ?_
  refine lv_to (y := nI (i + 1)) (nI_add i 1) ?_
  refine va_sld hx hb hX0 hbl (Nat.not_le.mpr hbl) G.2.2 (i := nI (i + 1)) (vp_in_nI (n := i + 1) (N := L) (by omega) (by omega)) dL_law_1244 ?_
  refine lv_to (y := xs (i + 1)) (congrArg xs (nI_clamp (by omega))) ?_
  refine lv_aload_n hx hb dL_law_1245 rfl (lv_at hl 5 rfl) ?_
  refine lv_iload hx hb dL_law_1246 (lv_at hl 0 rfl) ?_
  refine lv_iconst (v := 2) hx hb dL_law_1248 (by decide) ?_
  refine lv_iadd hx hb dL_law_1249 ?_
  refine lv_to (y := nI (i + 2)) (nI_add i 2) ?_
  refine va_sld hx hb hX0 hbl (Nat.not_le.mpr hbl) G.2.2 (i := nI (i + 2)) (vp_in_nI (n := i + 2) (N := L) (by omega) (by omega)) dL_law_1250 ?_
  refine lv_to (y := xs (i + 2)) (congrArg xs (nI_clamp (by omega))) ?_
  refine lv_aload_n hx hb dL_law_1251 rfl (lv_at hl 5 rfl) ?_
  refine lv_iload hx hb dL_law_1252 (lv_at hl 0 rfl) ?_
  refine lv_iconst (v := 3) hx hb dL_law_1254 (by decide) ?_
  refine lv_iadd hx hb dL_law_1255 ?_
  refine lv_to (y := nI (i + 3)) (nI_add i 3) ?_
  refine va_sld hx hb hX0 hbl (Nat.not_le.mpr hbl) G.2.2 (i := nI (i + 3)) (vp_in_nI (n := i + 3) (N := L) (by omega) (by omega)) dL_law_1256 ?_
  refine lv_to (y := xs (i + 3)) (congrArg xs (nI_clamp (by omega))) ?_
  refine lv_aload_n hx hb dL_law_1257 rfl (lv_at hl 2 rfl) ?_
  obtain ⟨⟨k1, r1, T1⟩, hg, hc⟩ := cs_X11_alias T 0 (xs (i + 1)) (xs (i + 2)) (xs (i + 3)) hV (by decide +kernel)
  have hV1 : IV aR0 1586 aK1 aK2 T1 := by rw [show T1 = T from hc.1]; exact hV
  have hg1 := (gl_sp (s_X11_alias hg))
  have hg2 := sg_le hg1
  have hg3 := hg1.1
  have hk := hV1.2.2.2.2.2.2
  have hrc1 := hg1.2.2 hrc
  have hr0 := a_room
  refine l_v (h0 := s.heap.size) (As := [.ref (ad 0), .int (xs (i + 1)), .int (xs (i + 2)), .int (xs (i + 3)), .ref aj]) (rest := []) E G hA hX hN (fun _ h => h) hTS hml (v_alias l hst D s.heap.size ad T 0 (xs (i + 1)) (xs (i + 2)) (xs (i + 3)) aj f hg hrc h0T h0s) (vx_cwSW 5 hts (glA (L := [Cond.methodLink RL 309 yL_alias, Cond.static yL_alias, Cond.initialized RL]) (gl_in [(6, 121), (6, 122), (1, 0)] (by decide +kernel) (by decide +kernel)) ⟨(t_of [Cond.codeWith yL_alias cL_alias 6 (some .int) [(0, 12, 15, 21), (0, 12, 19, 13), (0, 12, 23, 15)]] [(6, 123)] (by decide +kernel) _ List.mem_cons_self), List.all_eq_true.mp (by decide +kernel : [Cond.codeWith yL_alias cL_alias 6 (some .int) [(0, 12, 15, 21), (0, 12, 19, 13), (0, 12, 23, 15)]].all goodWord = true) _ List.mem_cons_self⟩) rfl rfl rfl (by decide +kernel) ⟨Nat.le_of_ble_eq_true rfl, Nat.le_of_ble_eq_true rfl⟩) rfl hl.1 rfl (lv_room (Nat.le_of_ble_eq_true rfl)) dL_law_1258 ⟨by show _ ≤ 601024; omega, by show _ ≤ 7293034; omega⟩ ?_
  intro ad2 H locs had G
  rw [← had 0 h0T] at hl
  refine lv_istore (lv' := [(6, .int (vck 1 2 3 k1)), (5, .int (nI i)), (4, .ref ae), (3, .ref aj), (2, .ref (am 0)), (1, .ref (ad2 0)), (0, .ref b)]) hx hb dL_law_1261 hl (by decide) rfl (fun ls hl => ?_)
  refine lv_aload_n hx hb dL_law_1263 rfl (lv_at hl 4 rfl) ?_
  refine lv_aload_n hx hb dL_law_1264 rfl (lv_at hl 6 rfl) ?_
  refine lv_iload hx hb dL_law_1265 (lv_at hl 1 rfl) ?_
  refine lv_iconst (v := 1) hx hb dL_law_1267 (by decide) ?_
  refine lv_iadd hx hb dL_law_1268 ?_
  refine lv_to (y := nI (i + 1)) (nI_add i 1) ?_
  refine va_sld hx hb hX0 hbl (Nat.not_le.mpr hbl) G.2.2 (i := nI (i + 1)) (vp_in_nI (n := i + 1) (N := L) (by omega) (by omega)) dL_law_1269 ?_
  refine lv_to (y := xs (i + 1)) (congrArg xs (nI_clamp (by omega))) ?_
  refine lv_aload_n hx hb dL_law_1270 rfl (lv_at hl 6 rfl) ?_
  refine lv_iload hx hb dL_law_1271 (lv_at hl 1 rfl) ?_
  refine lv_iconst (v := 2) hx hb dL_law_1273 (by decide) ?_
  refine lv_iadd hx hb dL_law_1274 ?_
  refine lv_to (y := nI (i + 2)) (nI_add i 2) ?_
  refine va_sld hx hb hX0 hbl (Nat.not_le.mpr hbl) G.2.2 (i := nI (i + 2)) (vp_in_nI (n := i + 2) (N := L) (by omega) (by omega)) dL_law_1275 ?_
  refine lv_to (y := xs (i + 2)) (congrArg xs (nI_clamp (by omega))) ?_
  refine lv_aload_n hx hb dL_law_1276 rfl (lv_at hl 6 rfl) ?_
  refine lv_iload hx hb dL_law_1277 (lv_at hl 1 rfl) ?_
  refine lv_iconst (v := 3) hx hb dL_law_1279 (by decide) ?_
  refine lv_iadd hx hb dL_law_1280 ?_
  refine lv_to (y := nI (i + 3)) (nI_add i 3) ?_
  refine va_sld hx hb hX0 hbl (Nat.not_le.mpr hbl) G.2.2 (i := nI (i + 3)) (vp_in_nI (n := i + 3) (N := L) (by omega) (by omega)) dL_law_1281 ?_
  refine lv_to (y := xs (i + 3)) (congrArg xs (nI_clamp (by omega))) ?_
  obtain ⟨⟨r2, S1⟩, hf, hj⟩ := sj_alias Sm (xs (i + 1)) (xs (i + 2)) (xs (i + 3)) hJ
  have hJ1 : JJ S1 := hj
  refine y_mi (As := [.int (xs (i + 1)), .int (xs (i + 2)), .int (xs (i + 3))]) (rest := []) E G hA hX.2.2.2.2 hml (tr_alias l D cI cJ cZ am Sm (xs (i + 1)) (xs (i + 2)) (xs (i + 3)) hf) (cwV 3 hts (glM (L := [Cond.methodLink RL 311 yX12_alias, Cond.instanceMethod yX12_alias, Cond.selects RX12 yX12_alias yX12_alias, Cond.initialized RX12]) (gl_in [(9, 227), (9, 228), (9, 229), (1, 14)] (by decide +kernel) (by decide +kernel)) ⟨(t_of [Cond.code yX12_alias cX12_alias 4 (some .int)] [(9, 230)] (by decide +kernel) _ List.mem_cons_self), List.all_eq_true.mp (by decide +kernel : [Cond.code yX12_alias cX12_alias 4 (some .int)].all goodWord = true) _ List.mem_cons_self⟩) rfl rfl rfl (by decide +kernel) ⟨Nat.le_of_ble_eq_true rfl, Nat.le_of_ble_eq_true rfl⟩) rfl hl.1 rfl (lv_room (Nat.le_of_ble_eq_true rfl)) dL_law_1282 ⟨by show _ ≤ 601024; omega, by show _ ≤ 7293034; omega⟩ (fun H locs G => ?_)
  refine lv_istore (lv' := [(7, .int r2), (6, .int (vck 1 2 3 k1)), (5, .int (nI i)), (4, .ref ae), (3, .ref aj), (2, .ref (am 0)), (1, .ref (ad2 0)), (0, .ref b)]) hx hb dL_law_1285 hl (by decide) rfl (fun ls hl => ?_)
  refine lv_goto (tgt := 2439) hx hb dL_law_1287 (by decide) ?_
  have hl := lv_sub hl [2, 3, 4, 5, 6, 7] rfl
  refine W.widen (k := 19 + T1.1 + (j + 1)) (n := 38467 + sg T1 + 6 * (j + 1)) (by omega) (by omega) ?_
  exact kk ad2 (vfJ k1 f r1.toInt64) g H locs ls hg hf (had 0 h0T) hV1 hrc1 hJ1 G hl
set_option maxHeartbeats 4000000 in
set_option maxRecDepth 100000 in
theorem y_a34 {p : Program} {e : Env} {s : State} {m : MethodId} {below : List Frame} {meth : Method} {c : Code} (l : Launch) (hst : l.stackTraces = false) {b L : Nat} {xs : Nat → Int32} (hx : p.tables.exec = Jvm.exec) (hb : c.code = code) (hml : c.maxLocals = 9) (hown : s.vm.findClass RL = some m.cls) (hts : ∀ w ∈ lw_tbl, w.before #[Value.ref b] s = true) (hX0 : va_X b L xs s s.heap) (hbl : b < s.heap.size) (hX : xT (fun q => s.heap.size ≤ q) s) (hN : nC s) (hTS : sAll s.heap.size s) {D : va_G} {cI cJ cZ cMic cSrc cSt cAI cAJ cD : ClassId} (hK : va_K D vwCl (CT cI cJ cZ cMic cSrc cSt cAI cAJ ++ [(cD, .double)]) s) {Q : State → Prop} {i j : Nat} (hi : i + 6 ≤ L) (hL : L ≤ 3072) (hj : j < 512) {aj ae : Nat} {ad am : Nat → Nat} {T : AT} {Sm : MS} {f : Nat → Int64} {g : Nat → UInt64} {ls : Array Slot} {H : Heap} {locs : List Loc} (hV : IV aR0 1586 aK1 aK2 T) (hrc : RC T) (hJ : JJ Sm) (G : gL cI cJ cZ cMic cSrc cSt cAI cAJ D ad (fun q => s.heap.size ≤ q) s.heap H locs T (oJ aj cJ f :: oD ae cD g :: MW cI cJ cZ am Sm)) (hl : lv_has ls 9 [(5, .int (nI i)), (4, .ref ae), (3, .ref aj), (2, .ref (am 0)), (1, .ref (ad 0)), (0, .ref b)]) (kk : ∀ {k1 : Nat} {r1 : Int32} {T1 : AT} {r2 : Int32} {S1 : MS} (ad2 : Nat → Nat) (f1 : Nat → Int64) (g1 : Nat → UInt64) (H1 : Heap) (locs1 : List Loc) (ls1 : Array Slot), g_X11_isAlias T 0 (xs (i + 1)) (xs (i + 2)) (xs (i + 3)) = some (k1, r1, T1) → fr_isAlias Sm (xs (i + 1)) (xs (i + 2)) (xs (i + 3)) = some (r2, S1) → ad2 0 = ad 0 → IV aR0 1586 aK1 aK2 T1 → RC T1 → JJ S1 → gL cI cJ cZ cMic cSrc cSt cAI cAJ D ad2 (fun q => s.heap.size ≤ q) s.heap H1 locs1 T1 (oJ aj cJ f1 :: oD ae cD g1 :: MW cI cJ cZ am S1) → lv_has ls1 9 [(5, .int (nI i)), (4, .ref ae), (3, .ref aj), (2, .ref (am 0)), (1, .ref (ad2 0)), (0, .ref b)] → W p l e room_1 s m #[Value.ref b] below meth c H1 locs1 (19 + T1.1 + (j + 1)) (38467 + sg T1 + 6 * (j + 1)) Q (F0 m 2439 ls1 [])) : W p l e room_1 s m #[Value.ref b] below meth c H locs (19 + T.1 + j) (38467 + sg T + 6 * j) Q (F0 m 1290 ls []) := by
  have E : cE p c cL_law s m #[Value.ref b] lw_tbl D RL (CT cI cJ cZ cMic cSrc cSt cAI cAJ ++ [(cD, .double)]) := ⟨hx, hb, hts, hown, hK⟩
  have hA : ∀ q : Nat, s.heap.size ≤ q → s.heap.size ≤ q := fun _ h => h
  have h0T : 0 < T.1 := Nat.lt_of_lt_of_le (by decide) hV.1.2.2
  have h0s : T.2.1 0 = (11, 0) := hV.2.1 0 ⟨by decide, by decide +kernel, by decide +kernel⟩
  refine lv_aload_n hx hb dL_law_1290 rfl (lv_at hl 4 rfl) ?_
  refine lv_aload_n hx hb dL_law_1291 rfl (lv_at hl 5 rfl) ?_
  refine lv_iload hx hb dL_law_1292 (lv_at hl 0 rfl) ?_
  refine lv_iconst (v := 1) hx hb dL_law_1294 (by decide) ?_
  refine lv_iadd hx hb dL_law_1295 ?_
  refine lv_to (y := nI (i + 1)) (nI_add i 1) ?_
  refine va_sld hx hb hX0 hbl (Nat.not_le.mpr hbl) G.2.2 (i := nI (i + 1)) (vp_in_nI (n := i + 1) (N := L) (by omega) (by omega)) dL_law_1296 ?_
  refine lv_to (y := xs (i + 1)) (congrArg xs (nI_clamp (by omega))) ?_
  refine lv_aload_n hx hb dL_law_1297 rfl (lv_at hl 5 rfl) ?_
  refine lv_iload hx hb dL_law_1298 (lv_at hl 0 rfl) ?_
  refine lv_iconst (v := 2) hx hb dL_law_1300 (by decide) ?_
  refine lv_iadd hx hb dL_law_1301 ?_
  refine lv_to (y := nI (i + 2)) (nI_add i 2) ?_
  refine va_sld hx hb hX0 hbl (Nat.not_le.mpr hbl) G.2.2 (i := nI (i + 2)) (vp_in_nI (n := i + 2) (N := L) (by omega) (by omega)) dL_law_1302 ?_
  refine lv_to (y := xs (i + 2)) (congrArg xs (nI_clamp (by omega))) ?_
  refine lv_aload_n hx hb dL_law_1303 rfl (lv_at hl 5 rfl) ?_
  refine lv_iload hx hb dL_law_1304 (lv_at hl 0 rfl) ?_
  refine lv_iconst (v := 3) hx hb dL_law_1306 (by decide) ?_
  refine lv_iadd hx hb dL_law_1307 ?_
  refine lv_to (y := nI (i + 3)) (nI_add i 3) ?_
  refine va_sld hx hb hX0 hbl (Nat.not_le.mpr hbl) G.2.2 (i := nI (i + 3)) (vp_in_nI (n := i + 3) (N := L) (by omega) (by omega)) dL_law_1308 ?_
  refine lv_to (y := xs (i + 3)) (congrArg xs (nI_clamp (by omega))) ?_
  refine lv_aload_n hx hb dL_law_1309 rfl (lv_at hl 2 rfl) ?_
  obtain ⟨⟨k1, r1, T1⟩, hg, hc⟩ := cs_X11_isAlias T 0 (xs (i + 1)) (xs (i + 2)) (xs (i + 3)) hV (by decide +kernel)
  have hV1 : IV aR0 1586 aK1 aK2 T1 := hc.1.1
  have hg1 := s_X11_isAlias hg
  have hg2 := sg_le hg1
  have hg3 := hg1.1
  have hk := hV1.2.2.2.2.2.2
  have hrc1 := hg1.2.2 hrc
  have hr0 := a_room
  refine l_v (h0 := s.heap.size) (As := [.ref (ad 0), .int (xs (i + 1)), .int (xs (i + 2)), .int (xs (i + 3)), .ref aj]) (rest := []) E G hA hX hN (fun _ h => h) hTS hml (v_isAlias l hst D s.heap.size ad T 0 (xs (i + 1)) (xs (i + 2)) (xs (i + 3)) aj f hg hrc h0T h0s) (vx_cwSW 5 hts (glA (L := [Cond.methodLink RL 312 yL_isAlias, Cond.static yL_isAlias, Cond.initialized RL]) (gl_in [(6, 134), (6, 135), (1, 0)] (by decide +kernel) (by decide +kernel)) ⟨(t_of [Cond.codeWith yL_isAlias cL_isAlias 6 (some .int) [(0, 19, 22, 21), (0, 19, 26, 13), (0, 19, 30, 15)]] [(6, 136)] (by decide +kernel) _ List.mem_cons_self), List.all_eq_true.mp (by decide +kernel : [Cond.codeWith yL_isAlias cL_isAlias 6 (some .int) [(0, 19, 22, 21), (0, 19, 26, 13), (0, 19, 30, 15)]].all goodWord = true) _ List.mem_cons_self⟩) rfl rfl rfl (by decide +kernel) ⟨Nat.le_of_ble_eq_true rfl, Nat.le_of_ble_eq_true rfl⟩) rfl hl.1 rfl (lv_room (Nat.le_of_ble_eq_true rfl)) dL_law_1310 ⟨by show _ ≤ 601024; omega, by show _ ≤ 7293034; omega⟩ ?_
  intro ad2 H locs had G
  rw [← had 0 h0T] at hl
  refine lv_istore (lv' := [(6, .int (vck 1 2 3 k1)), (5, .int (nI i)), (4, .ref ae), (3, .ref aj), (2, .ref (am 0)), (1, .ref (ad2 0)), (0, .ref b)]) hx hb dL_law_1313 hl (by decide) rfl (fun ls hl => ?_)
  refine lv_aload_n hx hb dL_law_1315 rfl (lv_at hl 4 rfl) ?_
  refine lv_aload_n hx hb dL_law_1316 rfl (lv_at hl 6 rfl) ?_
  refine lv_iload hx hb dL_law_1317 (lv_at hl 1 rfl) ?_
  refine lv_iconst (v := 1) hx hb dL_law_1319 (by decide) ?_
  refine lv_iadd hx hb dL_law_1320 ?_
  refine lv_to (y := nI (i + 1)) (nI_add i 1) ?_
  refine va_sld hx hb hX0 hbl (Nat.not_le.mpr hbl) G.2.2 (i := nI (i + 1)) (vp_in_nI (n := i + 1) (N := L) (by omega) (by omega)) dL_law_1321 ?_
  refine lv_to (y := xs (i + 1)) (congrArg xs (nI_clamp (by omega))) ?_
  refine lv_aload_n hx hb dL_law_1322 rfl (lv_at hl 6 rfl) ?_
  refine lv_iload hx hb dL_law_1323 (lv_at hl 1 rfl) ?_
  refine lv_iconst (v := 2) hx hb dL_law_1325 (by decide) ?_
  refine lv_iadd hx hb dL_law_1326 ?_
  refine lv_to (y := nI (i + 2)) (nI_add i 2) ?_
  refine va_sld hx hb hX0 hbl (Nat.not_le.mpr hbl) G.2.2 (i := nI (i + 2)) (vp_in_nI (n := i + 2) (N := L) (by omega) (by omega)) dL_law_1327 ?_
  refine lv_to (y := xs (i + 2)) (congrArg xs (nI_clamp (by omega))) ?_
  refine lv_aload_n hx hb dL_law_1328 rfl (lv_at hl 6 rfl) ?_
  refine lv_iload hx hb dL_law_1329 (lv_at hl 1 rfl) ?_
  refine lv_iconst (v := 3) hx hb dL_law_1331 (by decide) ?_
  refine lv_iadd hx hb dL_law_1332 ?_
  refine lv_to (y := nI (i + 3)) (nI_add i 3) ?_
  refine va_sld hx hb hX0 hbl (Nat.not_le.mpr hbl) G.2.2 (i := nI (i + 3)) (vp_in_nI (n := i + 3) (N := L) (by omega) (by omega)) dL_law_1333 ?_
  refine lv_to (y := xs (i + 3)) (congrArg xs (nI_clamp (by omega))) ?_
  obtain ⟨⟨r2, S1⟩, hf, hj⟩ := sj_isAlias Sm (xs (i + 1)) (xs (i + 2)) (xs (i + 3)) hJ
  have hJ1 : JJ S1 := hj
  refine y_mi (As := [.int (xs (i + 1)), .int (xs (i + 2)), .int (xs (i + 3))]) (rest := []) E G hA hX.2.2.2.2 hml (tr_isAlias l D cI cJ cZ am Sm (xs (i + 1)) (xs (i + 2)) (xs (i + 3)) hf) (cwV 3 hts (glM (L := [Cond.methodLink RL 314 yX12_isAlias, Cond.instanceMethod yX12_isAlias, Cond.selects RX12 yX12_isAlias yX12_isAlias, Cond.initialized RX12]) (gl_in [(10, 2), (10, 3), (10, 4), (1, 14)] (by decide +kernel) (by decide +kernel)) ⟨(t_of [Cond.code yX12_isAlias cX12_isAlias 4 (some .boolean)] [(10, 5)] (by decide +kernel) _ List.mem_cons_self), List.all_eq_true.mp (by decide +kernel : [Cond.code yX12_isAlias cX12_isAlias 4 (some .boolean)].all goodWord = true) _ List.mem_cons_self⟩) rfl rfl rfl (by decide +kernel) ⟨Nat.le_of_ble_eq_true rfl, Nat.le_of_ble_eq_true rfl⟩) rfl hl.1 rfl (lv_room (Nat.le_of_ble_eq_true rfl)) dL_law_1334 ⟨by show _ ≤ 601024; omega, by show _ ≤ 7293034; omega⟩ (fun H locs G => ?_)
  refine lv_istore (lv' := [(7, .int r2), (6, .int (vck 1 2 3 k1)), (5, .int (nI i)), (4, .ref ae), (3, .ref aj), (2, .ref (am 0)), (1, .ref (ad2 0)), (0, .ref b)]) hx hb dL_law_1337 hl (by decide) rfl (fun ls hl => ?_)
  refine lv_goto (tgt := 2439) hx hb dL_law_1339 (by decide) ?_
  have hl := lv_sub hl [2, 3, 4, 5, 6, 7] rfl
  refine W.widen (k := 19 + T1.1 + (j + 1)) (n := 38467 + sg T1 + 6 * (j + 1)) (by omega) (by omega) ?_
  exact kk ad2 (vfJ k1 f (vzb r1)) g H locs ls hg hf (had 0 h0T) hV1 hrc1 hJ1 G hl
set_option maxHeartbeats 4000000 in
set_option maxRecDepth 100000 in
theorem y_a35 {p : Program} {e : Env} {s : State} {m : MethodId} {below : List Frame} {meth : Method} {c : Code} (l : Launch) (hst : l.stackTraces = false) {b L : Nat} {xs : Nat → Int32} (hx : p.tables.exec = Jvm.exec) (hb : c.code = code) (hml : c.maxLocals = 9) (hown : s.vm.findClass RL = some m.cls) (hts : ∀ w ∈ lw_tbl, w.before #[Value.ref b] s = true) (hX0 : va_X b L xs s s.heap) (hbl : b < s.heap.size) (hX : xT (fun q => s.heap.size ≤ q) s) (hN : nC s) (hTS : sAll s.heap.size s) {D : va_G} {cI cJ cZ cMic cSrc cSt cAI cAJ cD : ClassId} (hK : va_K D vwCl (CT cI cJ cZ cMic cSrc cSt cAI cAJ ++ [(cD, .double)]) s) {Q : State → Prop} {i j : Nat} (hi : i + 6 ≤ L) (hL : L ≤ 3072) (hj : j < 512) {aj ae : Nat} {ad am : Nat → Nat} {T : AT} {Sm : MS} {f : Nat → Int64} {g : Nat → UInt64} {ls : Array Slot} {H : Heap} {locs : List Loc} (hV : IV aR0 1586 aK1 aK2 T) (hrc : RC T) (hJ : JJ Sm) (G : gL cI cJ cZ cMic cSrc cSt cAI cAJ D ad (fun q => s.heap.size ≤ q) s.heap H locs T (oJ aj cJ f :: oD ae cD g :: MW cI cJ cZ am Sm)) (hl : lv_has ls 9 [(5, .int (nI i)), (4, .ref ae), (3, .ref aj), (2, .ref (am 0)), (1, .ref (ad 0)), (0, .ref b)]) (kk : ∀ {k1 : Nat} {r1 : Int32} {T1 : AT} {r2 : Int32} {S1 : MS} (ad2 : Nat → Nat) (f1 : Nat → Int64) (g1 : Nat → UInt64) (H1 : Heap) (locs1 : List Loc) (ls1 : Array Slot), g_X11_aliases T 0 (xs (i + 1)) (xs (i + 2)) = some (k1, r1, T1) → fr_aliases Sm (xs (i + 1)) (xs (i + 2)) = some (r2, S1) → ad2 0 = ad 0 → IV aR0 1586 aK1 aK2 T1 → RC T1 → JJ S1 → gL cI cJ cZ cMic cSrc cSt cAI cAJ D ad2 (fun q => s.heap.size ≤ q) s.heap H1 locs1 T1 (oJ aj cJ f1 :: oD ae cD g1 :: MW cI cJ cZ am S1) → lv_has ls1 9 [(5, .int (nI i)), (4, .ref ae), (3, .ref aj), (2, .ref (am 0)), (1, .ref (ad2 0)), (0, .ref b)] → W p l e room_1 s m #[Value.ref b] below meth c H1 locs1 (19 + T1.1 + (j + 1)) (38467 + sg T1 + 6 * (j + 1)) Q (F0 m 2439 ls1 [])) : W p l e room_1 s m #[Value.ref b] below meth c H locs (19 + T.1 + j) (38467 + sg T + 6 * j) Q (F0 m 1342 ls []) := by
  have E : cE p c cL_law s m #[Value.ref b] lw_tbl D RL (CT cI cJ cZ cMic cSrc cSt cAI cAJ ++ [(cD, .double)]) := ⟨hx, hb, hts, hown, hK⟩
  have hA : ∀ q : Nat, s.heap.size ≤ q → s.heap.size ≤ q := fun _ h => h
  have h0T : 0 < T.1 := Nat.lt_of_lt_of_le (by decide) hV.1.2.2
  have h0s : T.2.1 0 = (11, 0) := hV.2.1 0 ⟨by decide, by decide +kernel, by decide +kernel⟩
  refine lv_aload_n hx hb dL_law_1342 rfl (lv_at hl 4 rfl) ?_
  refine lv_aload_n hx hb dL_law_1343 rfl (lv_at hl 5 rfl) ?_
  refine lv_iload hx hb dL_law_1344 (lv_at hl 0 rfl) ?_
  refine lv_iconst (v := 1) hx hb dL_law_1346 (by decide) ?_
  refine lv_iadd hx hb dL_law_1347 ?_
  refine lv_to (y := nI (i + 1)) (nI_add i 1) ?_
  refine va_sld hx hb hX0 hbl (Nat.not_le.mpr hbl) G.2.2 (i := nI (i + 1)) (vp_in_nI (n := i + 1) (N := L) (by omega) (by omega)) dL_law_1348 ?_
  refine lv_to (y := xs (i + 1)) (congrArg xs (nI_clamp (by omega))) ?_
  refine lv_aload_n hx hb dL_law_1349 rfl (lv_at hl 5 rfl) ?_
  refine lv_iload hx hb dL_law_1350 (lv_at hl 0 rfl) ?_
  refine lv_iconst (v := 2) hx hb dL_law_1352 (by decide) ?_
  refine lv_iadd hx hb dL_law_1353 ?_
  refine lv_to (y := nI (i + 2)) (nI_add i 2) ?_
  refine va_sld hx hb hX0 hbl (Nat.not_le.mpr hbl) G.2.2 (i := nI (i + 2)) (vp_in_nI (n := i + 2) (N := L) (by omega) (by omega)) dL_law_1354 ?_
  refine lv_to (y := xs (i + 2)) (congrArg xs (nI_clamp (by omega))) ?_
  refine lv_aload_n hx hb dL_law_1355 rfl (lv_at hl 2 rfl) ?_
  obtain ⟨⟨k1, r1, T1⟩, hg, hc⟩ := cs_X11_aliases T 0 (xs (i + 1)) (xs (i + 2)) hV (by decide +kernel)
  have hV1 : IV aR0 1586 aK1 aK2 T1 := hc.1.1
  have hg1 := s_X11_aliases hg
  have hg2 := sg_le hg1
  have hg3 := hg1.1
  have hk := hV1.2.2.2.2.2.2
  have hrc1 := hg1.2.2 hrc
  have hr0 := a_room
  refine l_v (h0 := s.heap.size) (As := [.ref (ad 0), .int (xs (i + 1)), .int (xs (i + 2)), .ref aj]) (rest := []) E G hA hX hN (fun _ h => h) hTS hml (v_aliases l hst D s.heap.size ad T 0 (xs (i + 1)) (xs (i + 2)) aj f hg hrc h0T h0s) (vx_cwSW 4 hts (glA (L := [Cond.methodLink RL 315 yL_aliases, Cond.static yL_aliases, Cond.initialized RL]) (gl_in [(6, 149), (6, 150), (1, 0)] (by decide +kernel) (by decide +kernel)) ⟨(t_of [Cond.codeWith yL_aliases cL_aliases 5 (some .int) [(0, 10, 13, 21), (0, 10, 17, 15)]] [(6, 151)] (by decide +kernel) _ List.mem_cons_self), List.all_eq_true.mp (by decide +kernel : [Cond.codeWith yL_aliases cL_aliases 5 (some .int) [(0, 10, 13, 21), (0, 10, 17, 15)]].all goodWord = true) _ List.mem_cons_self⟩) rfl rfl rfl (by decide +kernel) ⟨Nat.le_of_ble_eq_true rfl, Nat.le_of_ble_eq_true rfl⟩) rfl hl.1 rfl (lv_room (Nat.le_of_ble_eq_true rfl)) dL_law_1356 ⟨by show _ ≤ 601024; omega, by show _ ≤ 7293034; omega⟩ ?_
  intro ad2 H locs had G
  rw [← had 0 h0T] at hl
  refine lv_istore (lv' := [(6, .int (vck 1 0 2 k1)), (5, .int (nI i)), (4, .ref ae), (3, .ref aj), (2, .ref (am 0)), (1, .ref (ad2 0)), (0, .ref b)]) hx hb dL_law_1359 hl (by decide) rfl (fun ls hl => ?_)
  refine lv_aload_n hx hb dL_law_1361 rfl (lv_at hl 4 rfl) ?_
  refine lv_aload_n hx hb dL_law_1362 rfl (lv_at hl 6 rfl) ?_
  refine lv_iload hx hb dL_law_1363 (lv_at hl 1 rfl) ?_
  refine lv_iconst (v := 1) hx hb dL_law_1365 (by decide) ?_
  refine lv_iadd hx hb dL_law_1366 ?_
  refine lv_to (y := nI (i + 1)) (nI_add i 1) ?_
  refine va_sld hx hb hX0 hbl (Nat.not_le.mpr hbl) G.2.2 (i := nI (i + 1)) (vp_in_nI (n := i + 1) (N := L) (by omega) (by omega)) dL_law_1367 ?_
  refine lv_to (y := xs (i + 1)) (congrArg xs (nI_clamp (by omega))) ?_
  refine lv_aload_n hx hb dL_law_1368 rfl (lv_at hl 6 rfl) ?_
  refine lv_iload hx hb dL_law_1369 (lv_at hl 1 rfl) ?_
  refine lv_iconst (v := 2) hx hb dL_law_1371 (by decide) ?_
  refine lv_iadd hx hb dL_law_1372 ?_
  refine lv_to (y := nI (i + 2)) (nI_add i 2) ?_
  refine va_sld hx hb hX0 hbl (Nat.not_le.mpr hbl) G.2.2 (i := nI (i + 2)) (vp_in_nI (n := i + 2) (N := L) (by omega) (by omega)) dL_law_1373 ?_
  refine lv_to (y := xs (i + 2)) (congrArg xs (nI_clamp (by omega))) ?_
  obtain ⟨⟨r2, S1⟩, hf, hj⟩ := sj_aliases Sm (xs (i + 1)) (xs (i + 2)) hJ
  have hJ1 : JJ S1 := hj
  refine y_mi (As := [.int (xs (i + 1)), .int (xs (i + 2))]) (rest := []) E G hA hX.2.2.2.2 hml (tr_aliases l D cI cJ cZ am Sm (xs (i + 1)) (xs (i + 2)) hf) (cwV 2 hts (glM (L := [Cond.methodLink RL 317 yX12_aliases, Cond.instanceMethod yX12_aliases, Cond.selects RX12 yX12_aliases yX12_aliases, Cond.initialized RX12]) (gl_in [(10, 13), (10, 14), (10, 15), (1, 14)] (by decide +kernel) (by decide +kernel)) ⟨(t_of [Cond.code yX12_aliases cX12_aliases 6 (some .int)] [(10, 16)] (by decide +kernel) _ List.mem_cons_self), List.all_eq_true.mp (by decide +kernel : [Cond.code yX12_aliases cX12_aliases 6 (some .int)].all goodWord = true) _ List.mem_cons_self⟩) rfl rfl rfl (by decide +kernel) ⟨Nat.le_of_ble_eq_true rfl, Nat.le_of_ble_eq_true rfl⟩) rfl hl.1 rfl (lv_room (Nat.le_of_ble_eq_true rfl)) dL_law_1374 ⟨by show _ ≤ 601024; omega, by show _ ≤ 7293034; omega⟩ (fun H locs G => ?_)
  refine lv_istore (lv' := [(7, .int r2), (6, .int (vck 1 0 2 k1)), (5, .int (nI i)), (4, .ref ae), (3, .ref aj), (2, .ref (am 0)), (1, .ref (ad2 0)), (0, .ref b)]) hx hb dL_law_1377 hl (by decide) rfl (fun ls hl => ?_)
  refine lv_goto (tgt := 2439) hx hb dL_law_1379 (by decide) ?_
  have hl := lv_sub hl [2, 3, 4, 5, 6, 7] rfl
  refine W.widen (k := 19 + T1.1 + (j + 1)) (n := 38467 + sg T1 + 6 * (j + 1)) (by omega) (by omega) ?_
  exact kk ad2 (vfJ k1 f r1.toInt64) g H locs ls hg hf (had 0 h0T) hV1 hrc1 hJ1 G hl
set_option maxHeartbeats 4000000 in
set_option maxRecDepth 100000 in
theorem y_a36 {p : Program} {e : Env} {s : State} {m : MethodId} {below : List Frame} {meth : Method} {c : Code} (l : Launch) (hst : l.stackTraces = false) {b L : Nat} {xs : Nat → Int32} (hx : p.tables.exec = Jvm.exec) (hb : c.code = code) (hml : c.maxLocals = 9) (hown : s.vm.findClass RL = some m.cls) (hts : ∀ w ∈ lw_tbl, w.before #[Value.ref b] s = true) (hX0 : va_X b L xs s s.heap) (hbl : b < s.heap.size) (hX : xT (fun q => s.heap.size ≤ q) s) (hN : nC s) (hTS : sAll s.heap.size s) {D : va_G} {cI cJ cZ cMic cSrc cSt cAI cAJ cD : ClassId} (hK : va_K D vwCl (CT cI cJ cZ cMic cSrc cSt cAI cAJ ++ [(cD, .double)]) s) {Q : State → Prop} {i j : Nat} (hi : i + 6 ≤ L) (hL : L ≤ 3072) (hj : j < 512) {aj ae : Nat} {ad am : Nat → Nat} {T : AT} {Sm : MS} {f : Nat → Int64} {g : Nat → UInt64} {ls : Array Slot} {H : Heap} {locs : List Loc} (hV : IV aR0 1586 aK1 aK2 T) (hrc : RC T) (hJ : JJ Sm) (G : gL cI cJ cZ cMic cSrc cSt cAI cAJ D ad (fun q => s.heap.size ≤ q) s.heap H locs T (oJ aj cJ f :: oD ae cD g :: MW cI cJ cZ am Sm)) (hl : lv_has ls 9 [(5, .int (nI i)), (4, .ref ae), (3, .ref aj), (2, .ref (am 0)), (1, .ref (ad 0)), (0, .ref b)]) (kk : ∀ {k1 : Nat} {r1 : Int64} {T1 : AT} {r2 : Int64} {S1 : MS} (ad2 : Nat → Nat) (f1 : Nat → Int64) (g1 : Nat → UInt64) (H1 : Heap) (locs1 : List Loc) (ls1 : Array Slot), g_X11_blockPower T 0 (xs (i + 1)) (xs (i + 2)) (xs (i + 3)) = some (k1, r1, T1) → fr_blockPower Sm (xs (i + 1)) (xs (i + 2)) (xs (i + 3)) = some (r2, S1) → ad2 0 = ad 0 → IV aR0 1586 aK1 aK2 T1 → RC T1 → JJ S1 → gL cI cJ cZ cMic cSrc cSt cAI cAJ D ad2 (fun q => s.heap.size ≤ q) s.heap H1 locs1 T1 (oJ aj cJ f1 :: oD ae cD g1 :: MW cI cJ cZ am S1) → lv_has ls1 9 [(5, .int (nI i)), (4, .ref ae), (3, .ref aj), (2, .ref (am 0)), (1, .ref (ad2 0)), (0, .ref b)] → W p l e room_1 s m #[Value.ref b] below meth c H1 locs1 (19 + T1.1 + (j + 1)) (38467 + sg T1 + 6 * (j + 1)) Q (F0 m 2439 ls1 [])) : W p l e room_1 s m #[Value.ref b] below meth c H locs (19 + T.1 + j) (38467 + sg T + 6 * j) Q (F0 m 1382 ls []) := by
  have E : cE p c cL_law s m #[Value.ref b] lw_tbl D RL (CT cI cJ cZ cMic cSrc cSt cAI cAJ ++ [(cD, .double)]) := ⟨hx, hb, hts, hown, hK⟩
  have hA : ∀ q : Nat, s.heap.size ≤ q → s.heap.size ≤ q := fun _ h => h
  have h0T : 0 < T.1 := Nat.lt_of_lt_of_le (by decide) hV.1.2.2
  have h0s : T.2.1 0 = (11, 0) := hV.2.1 0 ⟨by decide, by decide +kernel, by decide +kernel⟩
  refine lv_aload_n hx hb dL_law_1382 rfl (lv_at hl 4 rfl) ?_
  refine lv_aload_n hx hb dL_law_1383 rfl (lv_at hl 5 rfl) ?_
  refine lv_iload hx hb dL_law_1384 (lv_at hl 0 rfl) ?_
  refine lv_iconst (v := 1) hx hb dL_law_1386 (by decide) ?_
  refine lv_iadd hx hb dL_law_1387 ?_
  refine lv_to (y := nI (i + 1)) (nI_add i 1) ?_
  refine va_sld hx hb hX0 hbl (Nat.not_le.mpr hbl) G.2.2 (i := nI (i + 1)) (vp_in_nI (n := i + 1) (N := L) (by omega) (by omega)) dL_law_1388 ?_
  refine lv_to (y := xs (i + 1)) (congrArg xs (nI_clamp (by omega))) ?_
  refine lv_aload_n hx hb dL_law_1389 rfl (lv_at hl 5 rfl) ?_
  refine lv_iload hx hb dL_law_1390 (lv_at hl 0 rfl) ?_
  refine lv_iconst (v := 2) hx hb dL_law_1392 (by decide) ?_
  refine lv_iadd hx hb dL_law_1393 ?_
  refine lv_to (y := nI (i + 2)) (nI_add i 2) ?_
  refine va_sld hx hb hX0 hbl (Nat.not_le.mpr hbl) G.2.2 (i := nI (i + 2)) (vp_in_nI (n := i + 2) (N := L) (by omega) (by omega)) dL_law_1394 ?_
  refine lv_to (y := xs (i + 2)) (congrArg xs (nI_clamp (by omega))) ?_
  refine lv_aload_n hx hb dL_law_1395 rfl (lv_at hl 5 rfl) ?_
  refine lv_iload hx hb dL_law_1396 (lv_at hl 0 rfl) ?_
  refine lv_iconst (v := 3) hx hb dL_law_1398 (by decide) ?_
  refine lv_iadd hx hb dL_law_1399 ?_
  refine lv_to (y := nI (i + 3)) (nI_add i 3) ?_
  refine va_sld hx hb hX0 hbl (Nat.not_le.mpr hbl) G.2.2 (i := nI (i + 3)) (vp_in_nI (n := i + 3) (N := L) (by omega) (by omega)) dL_law_1400 ?_
  refine lv_to (y := xs (i + 3)) (congrArg xs (nI_clamp (by omega))) ?_
  refine lv_aload_n hx hb dL_law_1401 rfl (lv_at hl 2 rfl) ?_
  obtain ⟨⟨k1, r1, T1⟩, hg, hc⟩ := cs_X11_blockPower T 0 (xs (i + 1)) (xs (i + 2)) (xs (i + 3)) hV (by decide +kernel)
  have hV1 : IV aR0 1586 aK1 aK2 T1 := hc.1.1
  have hg1 := s_X11_blockPower hg
  have hg2 := sg_le hg1
  have hg3 := hg1.1
  have hk := hV1.2.2.2.2.2.2
  have hrc1 := hg1.2.2 hrc
  have hr0 := a_room
  refine l_v (h0 := s.heap.size) (As := [.ref (ad 0), .int (xs (i + 1)), .int (xs (i + 2)), .int (xs (i + 3)), .ref aj]) (rest := []) E G hA hX hN (fun _ h => h) hTS hml (v_blockPower l hst D s.heap.size ad T 0 (xs (i + 1)) (xs (i + 2)) (xs (i + 3)) aj f hg hrc h0T h0s) (vx_cwSW 5 hts (glA (L := [Cond.methodLink RL 318 yL_blockPower, Cond.static yL_blockPower, Cond.initialized RL]) (gl_in [(6, 156), (6, 157), (1, 0)] (by decide +kernel) (by decide +kernel)) ⟨(t_of [Cond.codeWith yL_blockPower cL_blockPower 6 (some .int) [(0, 11, 14, 21), (0, 11, 18, 13), (0, 11, 22, 15)]] [(6, 158)] (by decide +kernel) _ List.mem_cons_self), List.all_eq_true.mp (by decide +kernel : [Cond.codeWith yL_blockPower cL_blockPower 6 (some .int) [(0, 11, 14, 21), (0, 11, 18, 13), (0, 11, 22, 15)]].all goodWord = true) _ List.mem_cons_self⟩) rfl rfl rfl (by decide +kernel) ⟨Nat.le_of_ble_eq_true rfl, Nat.le_of_ble_eq_true rfl⟩) rfl hl.1 rfl (lv_room (Nat.le_of_ble_eq_true rfl)) dL_law_1402 ⟨by show _ ≤ 601024; omega, by show _ ≤ 7293034; omega⟩ ?_
  intro ad2 H locs had G
  rw [← had 0 h0T] at hl
  refine lv_istore (lv' := [(6, .int (vck 1 2 3 k1)), (5, .int (nI i)), (4, .ref ae), (3, .ref aj), (2, .ref (am 0)), (1, .ref (ad2 0)), (0, .ref b)]) hx hb dL_law_1405 hl (by decide) rfl (fun ls hl => ?_)
  refine lv_aload_n hx hb dL_law_1407 rfl (lv_at hl 4 rfl) ?_
  refine lv_aload_n hx hb dL_law_1408 rfl (lv_at hl 6 rfl) ?_
  refine lv_iload hx hb dL_law_1409 (lv_at hl 1 rfl) ?_
  refine lv_iconst (v := 1) hx hb dL_law_1411 (by decide) ?_
  refine lv_iadd hx hb dL_law_1412 ?_
  refine lv_to (y := nI (i + 1)) (nI_add i 1) ?_
  refine va_sld hx hb hX0 hbl (Nat.not_le.mpr hbl) G.2.2 (i := nI (i + 1)) (vp_in_nI (n := i + 1) (N := L) (by omega) (by omega)) dL_law_1413 ?_
  refine lv_to (y := xs (i + 1)) (congrArg xs (nI_clamp (by omega))) ?_
  refine lv_aload_n hx hb dL_law_1414 rfl (lv_at hl 6 rfl) ?_
  refine lv_iload hx hb dL_law_1415 (lv_at hl 1 rfl) ?_
  refine lv_iconst (v := 2) hx hb dL_law_1417 (by decide) ?_
  refine lv_iadd hx hb dL_law_1418 ?_
  refine lv_to (y := nI (i + 2)) (nI_add i 2) ?_
  refine va_sld hx hb hX0 hbl (Nat.not_le.mpr hbl) G.2.2 (i := nI (i + 2)) (vp_in_nI (n := i + 2) (N := L) (by omega) (by omega)) dL_law_1419 ?_
  refine lv_to (y := xs (i + 2)) (congrArg xs (nI_clamp (by omega))) ?_
  refine lv_aload_n hx hb dL_law_1420 rfl (lv_at hl 6 rfl) ?_
  refine lv_iload hx hb dL_law_1421 (lv_at hl 1 rfl) ?_
  refine lv_iconst (v := 3) hx hb dL_law_1423 (by decide) ?_
  refine lv_iadd hx hb dL_law_1424 ?_
  refine lv_to (y := nI (i + 3)) (nI_add i 3) ?_
  refine va_sld hx hb hX0 hbl (Nat.not_le.mpr hbl) G.2.2 (i := nI (i + 3)) (vp_in_nI (n := i + 3) (N := L) (by omega) (by omega)) dL_law_1425 ?_
  refine lv_to (y := xs (i + 3)) (congrArg xs (nI_clamp (by omega))) ?_
  obtain ⟨⟨r2, S1⟩, hf, hj⟩ := sj_blockPower Sm (xs (i + 1)) (xs (i + 2)) (xs (i + 3)) hJ
  have hJ1 : JJ S1 := hj
  refine y_ml (As := [.int (xs (i + 1)), .int (xs (i + 2)), .int (xs (i + 3))]) (rest := []) E G hA hX.2.2.2.2 hml (tr_blockPower l D cI cJ cZ am Sm (xs (i + 1)) (xs (i + 2)) (xs (i + 3)) hf) (cwV 3 hts (glM (L := [Cond.methodLink RL 320 yX12_blockPower, Cond.instanceMethod yX12_blockPower, Cond.selects RX12 yX12_blockPower yX12_blockPower, Cond.initialized RX12]) (gl_in [(10, 17), (10, 18), (10, 19), (1, 14)] (by decide +kernel) (by decide +kernel)) ⟨(t_of [Cond.code yX12_blockPower cX12_blockPower 4 (some .long)] [(10, 20)] (by decide +kernel) _ List.mem_cons_self), List.all_eq_true.mp (by decide +kernel : [Cond.code yX12_blockPower cX12_blockPower 4 (some .long)].all goodWord = true) _ List.mem_cons_self⟩) rfl rfl rfl (by decide +kernel) ⟨Nat.le_of_ble_eq_true rfl, Nat.le_of_ble_eq_true rfl⟩) rfl hl.1 rfl (lv_room (Nat.le_of_ble_eq_true rfl)) dL_law_1426 ⟨by show _ ≤ 601024; omega, by show _ ≤ 7293034; omega⟩ (fun H locs G => ?_)
  refine lv_lstore (lv' := [(7, .long r2), (6, .int (vck 1 2 3 k1)), (5, .int (nI i)), (4, .ref ae), (3, .ref aj), (2, .ref (am 0)), (1, .ref (ad2 0)), (0, .ref b)]) hx hb dL_law_1429 hl (by decide) rfl (fun ls hl => ?_)
  refine lv_goto (tgt := 2439) hx hb dL_law_1431 (by decide) ?_
  have hl := lv_sub hl [2, 3, 4, 5, 6, 7] rfl
  refine W.widen (k := 19 + T1.1 + (j + 1)) (n := 38467 + sg T1 + 6 * (j + 1)) (by omega) (by omega) ?_
  exact kk ad2 (vfJ k1 f r1) g H locs ls hg hf (had 0 h0T) hV1 hrc1 hJ1 G hl
set_option maxHeartbeats 4000000 in
set_option maxRecDepth 100000 in
theorem y_a37 {p : Program} {e : Env} {s : State} {m : MethodId} {below : List Frame} {meth : Method} {c : Code} (l : Launch) (hst : l.stackTraces = false) {b L : Nat} {xs : Nat → Int32} (hx : p.tables.exec = Jvm.exec) (hb : c.code = code) (hml : c.maxLocals = 9) (hown : s.vm.findClass RL = some m.cls) (hts : ∀ w ∈ lw_tbl, w.before #[Value.ref b] s = true) (hX0 : va_X b L xs s s.heap) (hbl : b < s.heap.size) (hX : xT (fun q => s.heap.size ≤ q) s) (hN : nC s) (hTS : sAll s.heap.size s) {D : va_G} {cI cJ cZ cMic cSrc cSt cAI cAJ cD : ClassId} (hK : va_K D vwCl (CT cI cJ cZ cMic cSrc cSt cAI cAJ ++ [(cD, .double)]) s) {Q : State → Prop} {i j : Nat} (hi : i + 6 ≤ L) (hL : L ≤ 3072) (hj : j < 512) {aj ae : Nat} {ad am : Nat → Nat} {T : AT} {Sm : MS} {f : Nat → Int64} {g : Nat → UInt64} {ls : Array Slot} {H : Heap} {locs : List Loc} (hV : IV aR0 1586 aK1 aK2 T) (hrc : RC T) (hJ : JJ Sm) (G : gL cI cJ cZ cMic cSrc cSt cAI cAJ D ad (fun q => s.heap.size ≤ q) s.heap H locs T (oJ aj cJ f :: oD ae cD g :: MW cI cJ cZ am Sm)) (hl : lv_has ls 9 [(5, .int (nI i)), (4, .ref ae), (3, .ref aj), (2, .ref (am 0)), (1, .ref (ad 0)), (0, .ref b)]) (kk : ∀ {k1 : Nat} {r1 : Int32} {T1 : AT} {r2 : Int32} {S1 : MS} (ad2 : Nat → Nat) (f1 : Nat → Int64) (g1 : Nat → UInt64) (H1 : Heap) (locs1 : List Loc) (ls1 : Array Slot), g_X11_blockBest T 0 (xs (i + 1)) (xs (i + 2)) = some (k1, r1, T1) → fr_blockBest Sm (xs (i + 1)) (xs (i + 2)) = some (r2, S1) → ad2 0 = ad 0 → IV aR0 1586 aK1 aK2 T1 → RC T1 → JJ S1 → gL cI cJ cZ cMic cSrc cSt cAI cAJ D ad2 (fun q => s.heap.size ≤ q) s.heap H1 locs1 T1 (oJ aj cJ f1 :: oD ae cD g1 :: MW cI cJ cZ am S1) → lv_has ls1 9 [(5, .int (nI i)), (4, .ref ae), (3, .ref aj), (2, .ref (am 0)), (1, .ref (ad2 0)), (0, .ref b)] → W p l e room_1 s m #[Value.ref b] below meth c H1 locs1 (19 + T1.1 + (j + 1)) (38467 + sg T1 + 6 * (j + 1)) Q (F0 m 2439 ls1 [])) : W p l e room_1 s m #[Value.ref b] below meth c H locs (19 + T.1 + j) (38467 + sg T + 6 * j) Q (F0 m 1434 ls []) := by
  have E : cE p c cL_law s m #[Value.ref b] lw_tbl D RL (CT cI cJ cZ cMic cSrc cSt cAI cAJ ++ [(cD, .double)]) := ⟨hx, hb, hts, hown, hK⟩
  have hA : ∀ q : Nat, s.heap.size ≤ q → s.heap.size ≤ q := fun _ h => h
  have h0T : 0 < T.1 := Nat.lt_of_lt_of_le (by decide) hV.1.2.2
  have h0s : T.2.1 0 = (11, 0) := hV.2.1 0 ⟨by decide, by decide +kernel, by decide +kernel⟩
  refine lv_aload_n hx hb dL_law_1434 rfl (lv_at hl 4 rfl) ?_
  refine lv_aload_n hx hb dL_law_1435 rfl (lv_at hl 5 rfl) ?_
  refine lv_iload hx hb dL_law_1436 (lv_at hl 0 rfl) ?_
  refine lv_iconst (v := 1) hx hb dL_law_1438 (by decide) ?_
  refine lv_iadd hx hb dL_law_1439 ?_
  refine lv_to (y := nI (i + 1)) (nI_add i 1) ?_
  refine va_sld hx hb hX0 hbl (Nat.not_le.mpr hbl) G.2.2 (i := nI (i + 1)) (vp_in_nI (n := i + 1) (N := L) (by omega) (by omega)) dL_law_1440 ?_
  refine lv_to (y := xs (i + 1)) (congrArg xs (nI_clamp (by omega))) ?_
  refine lv_aload_n hx hb dL_law_1441 rfl (lv_at hl 5 rfl) ?_
  refine lv_iload hx hb dL_law_1442 (lv_at hl 0 rfl) ?_
  refine lv_iconst (v := 2) hx hb dL_law_1444 (by decide) ?_
  refine lv_iadd hx hb dL_law_1445 ?_
  refine lv_to (y := nI (i + 2)) (nI_add i 2) ?_
  refine va_sld hx hb hX0 hbl (Nat.not_le.mpr hbl) G.2.2 (i := nI (i + 2)) (vp_in_nI (n := i + 2) (N := L) (by omega) (by omega)) dL_law_1446 ?_
  refine lv_to (y := xs (i + 2)) (congrArg xs (nI_clamp (by omega))) ?_
  refine lv_aload_n hx hb dL_law_1447 rfl (lv_at hl 2 rfl) ?_
  obtain ⟨⟨k1, r1, T1⟩, hg, hc⟩ := cs_X11_blockBest T 0 (xs (i + 1)) (xs (i + 2)) hV (by decide +kernel)
  have hV1 : IV aR0 1586 aK1 aK2 T1 := hc.1.1
  have hg1 := s_X11_blockBest hg
  have hg2 := sg_le hg1
  have hg3 := hg1.1
  have hk := hV1.2.2.2.2.2.2
  have hrc1 := hg1.2.2 hrc
  have hr0 := a_room
  refine l_v (h0 := s.heap.size) (As := [.ref (ad 0), .int (xs (i + 1)), .int (xs (i + 2)), .ref aj]) (rest := []) E G hA hX hN (fun _ h => h) hTS hml (v_blockBest l hst D s.heap.size ad T 0 (xs (i + 1)) (xs (i + 2)) aj f hg hrc h0T h0s) (vx_cwSW 4 hts (glA (L := [Cond.methodLink RL 321 yL_blockBest, Cond.static yL_blockBest, Cond.initialized RL]) (gl_in [(6, 164), (6, 165), (1, 0)] (by decide +kernel) (by decide +kernel)) ⟨(t_of [Cond.codeWith yL_blockBest cL_blockBest 5 (some .int) [(0, 10, 13, 21), (0, 10, 17, 15)]] [(6, 166)] (by decide +kernel) _ List.mem_cons_self), List.all_eq_true.mp (by decide +kernel : [Cond.codeWith yL_blockBest cL_blockBest 5 (some .int) [(0, 10, 13, 21), (0, 10, 17, 15)]].all goodWord = true) _ List.mem_cons_self⟩) rfl rfl rfl (by decide +kernel) ⟨Nat.le_of_ble_eq_true rfl, Nat.le_of_ble_eq_true rfl⟩) rfl hl.1 rfl (lv_room (Nat.le_of_ble_eq_true rfl)) dL_law_1448 ⟨by show _ ≤ 601024; omega, by show _ ≤ 7293034; omega⟩ ?_
  intro ad2 H locs had G
  rw [← had 0 h0T] at hl
  refine lv_istore (lv' := [(6, .int (vck 1 0 2 k1)), (5, .int (nI i)), (4, .ref ae), (3, .ref aj), (2, .ref (am 0)), (1, .ref (ad2 0)), (0, .ref b)]) hx hb dL_law_1451 hl (by decide) rfl (fun ls hl => ?_)
  refine lv_aload_n hx hb dL_law_1453 rfl (lv_at hl 4 rfl) ?_
  refine lv_aload_n hx hb dL_law_1454 rfl (lv_at hl 6 rfl) ?_
  refine lv_iload hx hb dL_law_1455 (lv_at hl 1 rfl) ?_
  refine lv_iconst (v := 1) hx hb dL_law_1457 (by decide) ?_
  refine lv_iadd hx hb dL_law_1458 ?_
  refine lv_to (y := nI (i + 1)) (nI_add i 1) ?_
  refine va_sld hx hb hX0 hbl (Nat.not_le.mpr hbl) G.2.2 (i := nI (i + 1)) (vp_in_nI (n := i + 1) (N := L) (by omega) (by omega)) dL_law_1459 ?_
  refine lv_to (y := xs (i + 1)) (congrArg xs (nI_clamp (by omega))) ?_
  refine lv_aload_n hx hb dL_law_1460 rfl (lv_at hl 6 rfl) ?_
  refine lv_iload hx hb dL_law_1461 (lv_at hl 1 rfl) ?_
  refine lv_iconst (v := 2) hx hb dL_law_1463 (by decide) ?_
  refine lv_iadd hx hb dL_law_1464 ?_
  refine lv_to (y := nI (i + 2)) (nI_add i 2) ?_
  refine va_sld hx hb hX0 hbl (Nat.not_le.mpr hbl) G.2.2 (i := nI (i + 2)) (vp_in_nI (n := i + 2) (N := L) (by omega) (by omega)) dL_law_1465 ?_
  refine lv_to (y := xs (i + 2)) (congrArg xs (nI_clamp (by omega))) ?_
  obtain ⟨⟨r2, S1⟩, hf, hj⟩ := sj_blockBest Sm (xs (i + 1)) (xs (i + 2)) hJ
  have hJ1 : JJ S1 := hj
  refine y_mi (As := [.int (xs (i + 1)), .int (xs (i + 2))]) (rest := []) E G hA hX.2.2.2.2 hml (tr_blockBest l D cI cJ cZ am Sm (xs (i + 1)) (xs (i + 2)) hf) (cwV 2 hts (glM (L := [Cond.methodLink RL 323 yX12_blockBest, Cond.instanceMethod yX12_blockBest, Cond.selects RX12 yX12_blockBest yX12_blockBest, Cond.initialized RX12]) (gl_in [(10, 29), (10, 30), (10, 31), (1, 14)] (by decide +kernel) (by decide +kernel)) ⟨(t_of [Cond.code yX12_blockBest cX12_blockBest 3 (some .int)] [(10, 32)] (by decide +kernel) _ List.mem_cons_self), List.all_eq_true.mp (by decide +kernel : [Cond.code yX12_blockBest cX12_blockBest 3 (some .int)].all goodWord = true) _ List.mem_cons_self⟩) rfl rfl rfl (by decide +kernel) ⟨Nat.le_of_ble_eq_true rfl, Nat.le_of_ble_eq_true rfl⟩) rfl hl.1 rfl (lv_room (Nat.le_of_ble_eq_true rfl)) dL_law_1466 ⟨by show _ ≤ 601024; omega, by show _ ≤ 7293034; omega⟩ (fun H locs G => ?_)
  refine lv_istore (lv' := [(7, .int r2), (6, .int (vck 1 0 2 k1)), (5, .int (nI i)), (4, .ref ae), (3, .ref aj), (2, .ref (am 0)), (1, .ref (ad2 0)), (0, .ref b)]) hx hb dL_law_1469 hl (by decide) rfl (fun ls hl => ?_)
  refine lv_goto (tgt := 2439) hx hb dL_law_1471 (by decide) ?_
  have hl := lv_sub hl [2, 3, 4, 5, 6, 7] rfl
  refine W.widen (k := 19 + T1.1 + (j + 1)) (n := 38467 + sg T1 + 6 * (j + 1)) (by omega) (by omega) ?_
  exact kk ad2 (vfJ k1 f r1.toInt64) g H locs ls hg hf (had 0 h0T) hV1 hrc1 hJ1 G hl
set_option maxHeartbeats 4000000 in
set_option maxRecDepth 100000 in
theorem y_a38 {p : Program} {e : Env} {s : State} {m : MethodId} {below : List Frame} {meth : Method} {c : Code} (l : Launch) (hst : l.stackTraces = false) {b L : Nat} {xs : Nat → Int32} (hx : p.tables.exec = Jvm.exec) (hb : c.code = code) (hml : c.maxLocals = 9) (hown : s.vm.findClass RL = some m.cls) (hts : ∀ w ∈ lw_tbl, w.before #[Value.ref b] s = true) (hX0 : va_X b L xs s s.heap) (hbl : b < s.heap.size) (hX : xT (fun q => s.heap.size ≤ q) s) (hN : nC s) (hTS : sAll s.heap.size s) {D : va_G} {cI cJ cZ cMic cSrc cSt cAI cAJ cD : ClassId} (hK : va_K D vwCl (CT cI cJ cZ cMic cSrc cSt cAI cAJ ++ [(cD, .double)]) s) {Q : State → Prop} {i j : Nat} (hi : i + 6 ≤ L) (hL : L ≤ 3072) (hj : j < 512) {aj ae : Nat} {ad am : Nat → Nat} {T : AT} {Sm : MS} {f : Nat → Int64} {g : Nat → UInt64} {ls : Array Slot} {H : Heap} {locs : List Loc} (hV : IV aR0 1586 aK1 aK2 T) (hrc : RC T) (hJ : JJ Sm) (G : gL cI cJ cZ cMic cSrc cSt cAI cAJ D ad (fun q => s.heap.size ≤ q) s.heap H locs T (oJ aj cJ f :: oD ae cD g :: MW cI cJ cZ am Sm)) (hl : lv_has ls 9 [(5, .int (nI i)), (4, .ref ae), (3, .ref aj), (2, .ref (am 0)), (1, .ref (ad 0)), (0, .ref b)]) (kk : ∀ {k1 : Nat} {r1 : Int32} {T1 : AT} {r2 : Int32} {S1 : MS} (ad2 : Nat → Nat) (f1 : Nat → Int64) (g1 : Nat → UInt64) (H1 : Heap) (locs1 : List Loc) (ls1 : Array Slot), g_X11_path T 0 (xs (i + 1)) = some (k1, r1, T1) → fr_path Sm (xs (i + 1)) = some (r2, S1) → ad2 0 = ad 0 → IV aR0 1586 aK1 aK2 T1 → RC T1 → JJ S1 → gL cI cJ cZ cMic cSrc cSt cAI cAJ D ad2 (fun q => s.heap.size ≤ q) s.heap H1 locs1 T1 (oJ aj cJ f1 :: oD ae cD g1 :: MW cI cJ cZ am S1) → lv_has ls1 9 [(5, .int (nI i)), (4, .ref ae), (3, .ref aj), (2, .ref (am 0)), (1, .ref (ad2 0)), (0, .ref b)] → W p l e room_1 s m #[Value.ref b] below meth c H1 locs1 (19 + T1.1 + (j + 1)) (38467 + sg T1 + 6 * (j + 1)) Q (F0 m 2439 ls1 [])) : W p l e room_1 s m #[Value.ref b] below meth c H locs (19 + T.1 + j) (38467 + sg T + 6 * j) Q (F0 m 1474 ls []) := by
  have E : cE p c cL_law s m #[Value.ref b] lw_tbl D RL (CT cI cJ cZ cMic cSrc cSt cAI cAJ ++ [(cD, .double)]) := ⟨hx, hb, hts, hown, hK⟩
  have hA : ∀ q : Nat, s.heap.size ≤ q → s.heap.size ≤ q := fun _ h => h
  have h0T : 0 < T.1 := Nat.lt_of_lt_of_le (by decide) hV.1.2.2
  have h0s : T.2.1 0 = (11, 0) := hV.2.1 0 ⟨by decide, by decide +kernel, by decide +kernel⟩
  refine lv_aload_n hx hb dL_law_1474 rfl (lv_at hl 4 rfl) ?_
  refine lv_aload_n hx hb dL_law_1475 rfl (lv_at hl 5 rfl) ?_
  refine lv_iload hx hb dL_law_1476 (lv_at hl 0 rfl) ?_
  refine lv_iconst (v := 1) hx hb dL_law_1478 (by decide) ?_
  refine lv_iadd hx hb dL_law_1479 ?_
  refine lv_to (y := nI (i + 1)) (nI_add i 1) ?_
  refine va_sld hx hb hX0 hbl (Nat.not_le.mpr hbl) G.2.2 (i := nI (i + 1)) (vp_in_nI (n := i + 1) (N := L) (by omega) (by omega)) dL_law_1480 ?_
  refine lv_to (y := xs (i + 1)) (congrArg xs (nI_clamp (by omega))) ?_
  refine lv_aload_n hx hb dL_law_1481 rfl (lv_at hl 2 rfl) ?_
  obtain ⟨⟨k1, r1, T1⟩, hg, hc⟩ := cs_X11_path T 0 (xs (i + 1)) hV (by decide +kernel)
  have hV1 : IV aR0 1586 aK1 aK2 T1 := hc.1.1
  have hg1 := s_X11_path hg
  have hg2 := sg_le hg1
  have hg3 := hg1.1
  have hk := hV1.2.2.2.2.2.2
  have hrc1 := hg1.2.2 hrc
  have hr0 := a_room
  refine l_v (h0 := s.heap.size) (As := [.ref (ad 0), .int (xs (i + 1)), .ref aj]) (rest := []) E G hA hX hN (fun _ h => h) hTS hml (v_path l hst D s.heap.size ad T 0 (xs (i + 1)) aj f hg hrc h0T h0s) (vx_cwSW 3 hts (glA (L := [Cond.methodLink RL 324 yL_path, Cond.static yL_path, Cond.initialized RL]) (gl_in [(6, 186), (6, 187), (1, 0)] (by decide +kernel) (by decide +kernel)) ⟨(t_of [Cond.codeWith yL_path cL_path 4 (some .int) [(0, 9, 12, 21), (0, 9, 15, 15)]] [(6, 188)] (by decide +kernel) _ List.mem_cons_self), List.all_eq_true.mp (by decide +kernel : [Cond.codeWith yL_path cL_path 4 (some .int) [(0, 9, 12, 21), (0, 9, 15, 15)]].all goodWord = true) _ List.mem_cons_self⟩) rfl rfl rfl (by decide +kernel) ⟨Nat.le_of_ble_eq_true rfl, Nat.le_of_ble_eq_true rfl⟩) rfl hl.1 rfl (lv_room (Nat.le_of_ble_eq_true rfl)) dL_law_1482 ⟨by show _ ≤ 601024; omega, by show _ ≤ 7293034; omega⟩ ?_
  intro ad2 H locs had G
  rw [← had 0 h0T] at hl
  refine lv_istore (lv' := [(6, .int (vck 1 0 2 k1)), (5, .int (nI i)), (4, .ref ae), (3, .ref aj), (2, .ref (am 0)), (1, .ref (ad2 0)), (0, .ref b)]) hx hb dL_law_1485 hl (by decide) rfl (fun ls hl => ?_)
  refine lv_aload_n hx hb dL_law_1487 rfl (lv_at hl 4 rfl) ?_
  refine lv_aload_n hx hb dL_law_1488 rfl (lv_at hl 6 rfl) ?_
  refine lv_iload hx hb dL_law_1489 (lv_at hl 1 rfl) ?_
  refine lv_iconst (v := 1) hx hb dL_law_1491 (by decide) ?_
  refine lv_iadd hx hb dL_law_1492 ?_
  refine lv_to (y := nI (i + 1)) (nI_add i 1) ?_
  refine va_sld hx hb hX0 hbl (Nat.not_le.mpr hbl) G.2.2 (i := nI (i + 1)) (vp_in_nI (n := i + 1) (N := L) (by omega) (by omega)) dL_law_1493 ?_
  refine lv_to (y := xs (i + 1)) (congrArg xs (nI_clamp (by omega))) ?_
  obtain ⟨⟨r2, S1⟩, hf, hj⟩ := sj_path Sm (xs (i + 1)) hJ
  have hJ1 : JJ S1 := hj
  refine y_mi (As := [.int (xs (i + 1))]) (rest := []) E G hA hX.2.2.2.2 hml (tr_path l D cI cJ cZ am Sm (xs (i + 1)) hf) (cwV 1 hts (glM (L := [Cond.methodLink RL 326 yX12_path, Cond.instanceMethod yX12_path, Cond.selects RX12 yX12_path yX12_path, Cond.initialized RX12]) (gl_in [(10, 37), (10, 38), (10, 39), (1, 14)] (by decide +kernel) (by decide +kernel)) ⟨(t_of [Cond.code yX12_path cX12_path 6 (some .int)] [(10, 40)] (by decide +kernel) _ List.mem_cons_self), List.all_eq_true.mp (by decide +kernel : [Cond.code yX12_path cX12_path 6 (some .int)].all goodWord = true) _ List.mem_cons_self⟩) rfl rfl rfl (by decide +kernel) ⟨Nat.le_of_ble_eq_true rfl, Nat.le_of_ble_eq_true rfl⟩) rfl hl.1 rfl (lv_room (Nat.le_of_ble_eq_true rfl)) dL_law_1494 ⟨by show _ ≤ 601024; omega, by show _ ≤ 7293034; omega⟩ (fun H locs G => ?_)
  refine lv_istore (lv' := [(7, .int r2), (6, .int (vck 1 0 2 k1)), (5, .int (nI i)), (4, .ref ae), (3, .ref aj), (2, .ref (am 0)), (1, .ref (ad2 0)), (0, .ref b)]) hx hb dL_law_1497 hl (by decide) rfl (fun ls hl => ?_)
  refine lv_goto (tgt := 2439) hx hb dL_law_1499 (by decide) ?_
  have hl := lv_sub hl [2, 3, 4, 5, 6, 7] rfl
  refine W.widen (k := 19 + T1.1 + (j + 1)) (n := 38467 + sg T1 + 6 * (j + 1)) (by omega) (by omega) ?_
  exact kk ad2 (vfJ k1 f r1.toInt64) g H locs ls hg hf (had 0 h0T) hV1 hrc1 hJ1 G hl
set_option maxHeartbeats 4000000 in
set_option maxRecDepth 100000 in
theorem y_a39 {p : Program} {e : Env} {s : State} {m : MethodId} {below : List Frame} {meth : Method} {c : Code} (l : Launch) (hst : l.stackTraces = false) {b L : Nat} {xs : Nat → Int32} (hx : p.tables.exec = Jvm.exec) (hb : c.code = code) (hml : c.maxLocals = 9) (hown : s.vm.findClass RL = some m.cls) (hts : ∀ w ∈ lw_tbl, w.before #[Value.ref b] s = true) (hX0 : va_X b L xs s s.heap) (hbl : b < s.heap.size) (hX : xT (fun q => s.heap.size ≤ q) s) (hN : nC s) (hTS : sAll s.heap.size s) {D : va_G} {cI cJ cZ cMic cSrc cSt cAI cAJ cD : ClassId} (hK : va_K D vwCl (CT cI cJ cZ cMic cSrc cSt cAI cAJ ++ [(cD, .double)]) s) {Q : State → Prop} {i j : Nat} (hi : i + 6 ≤ L) (hL : L ≤ 3072) (hj : j < 512) {aj ae : Nat} {ad am : Nat → Nat} {T : AT} {Sm : MS} {f : Nat → Int64} {g : Nat → UInt64} {ls : Array Slot} {H : Heap} {locs : List Loc} (hV : IV aR0 1586 aK1 aK2 T) (hrc : RC T) (hJ : JJ Sm) (G : gL cI cJ cZ cMic cSrc cSt cAI cAJ D ad (fun q => s.heap.size ≤ q) s.heap H locs T (oJ aj cJ f :: oD ae cD g :: MW cI cJ cZ am Sm)) (hl : lv_has ls 9 [(5, .int (nI i)), (4, .ref ae), (3, .ref aj), (2, .ref (am 0)), (1, .ref (ad 0)), (0, .ref b)]) (kk : ∀ {k1 : Nat} {r1 : Int64} {T1 : AT} {r2 : Int64} {S1 : MS} (ad2 : Nat → Nat) (f1 : Nat → Int64) (g1 : Nat → UInt64) (H1 : Heap) (locs1 : List Loc) (ls1 : Array Slot), g_X11_trackScore T 0 (xs (i + 1)) = some (k1, r1, T1) → fr_trackScore Sm (xs (i + 1)) = some (r2, S1) → ad2 0 = ad 0 → IV aR0 1586 aK1 aK2 T1 → RC T1 → JJ S1 → gL cI cJ cZ cMic cSrc cSt cAI cAJ D ad2 (fun q => s.heap.size ≤ q) s.heap H1 locs1 T1 (oJ aj cJ f1 :: oD ae cD g1 :: MW cI cJ cZ am S1) → lv_has ls1 9 [(5, .int (nI i)), (4, .ref ae), (3, .ref aj), (2, .ref (am 0)), (1, .ref (ad2 0)), (0, .ref b)] → W p l e room_1 s m #[Value.ref b] below meth c H1 locs1 (19 + T1.1 + (j + 1)) (38467 + sg T1 + 6 * (j + 1)) Q (F0 m 2439 ls1 [])) : W p l e room_1 s m #[Value.ref b] below meth c H locs (19 + T.1 + j) (38467 + sg T + 6 * j) Q (F0 m 1502 ls []) := by
  have E : cE p c cL_law s m #[Value.ref b] lw_tbl D RL (CT cI cJ cZ cMic cSrc cSt cAI cAJ ++ [(cD, .double)]) := ⟨hx, hb, hts, hown, hK⟩
  have hA : ∀ q : Nat, s.heap.size ≤ q → s.heap.size ≤ q := fun _ h => h
  have h0T : 0 < T.1 := Nat.lt_of_lt_of_le (by decide) hV.1.2.2
  have h0s : T.2.1 0 = (11, 0) := hV.2.1 0 ⟨by decide, by decide +kernel, by decide +kernel⟩
  refine lv_aload_n hx hb dL_law_1502 rfl (lv_at hl 4 rfl) ?_
  refine lv_aload_n hx hb dL_law_1503 rfl (lv_at hl 5 rfl) ?_
  refine lv_iload hx hb dL_law_1504 (lv_at hl 0 rfl) ?_
  refine lv_iconst (v := 1) hx hb dL_law_1506 (by decide) ?_
  refine lv_iadd hx hb dL_law_1507 ?_
  refine lv_to (y := nI (i + 1)) (nI_add i 1) ?_
  refine va_sld hx hb hX0 hbl (Nat.not_le.mpr hbl) G.2.2 (i := nI (i + 1)) (vp_in_nI (n := i + 1) (N := L) (by omega) (by omega)) dL_law_1508 ?_
  refine lv_to (y := xs (i + 1)) (congrArg xs (nI_clamp (by omega))) ?_
  refine lv_aload_n hx hb dL_law_1509 rfl (lv_at hl 2 rfl) ?_
  obtain ⟨⟨k1, r1, T1⟩, hg, hc⟩ := cs_X11_trackScore T 0 (xs (i + 1)) hV (by decide +kernel)
  have hV1 : IV aR0 1586 aK1 aK2 T1 := hc.1.1
  have hg1 := s_X11_trackScore hg
  have hg2 := sg_le hg1
  have hg3 := hg1.1
  have hk := hV1.2.2.2.2.2.2
  have hrc1 := hg1.2.2 hrc
  have hr0 := a_room
  refine l_v (h0 := s.heap.size) (As := [.ref (ad 0), .int (xs (i + 1)), .ref aj]) (rest := []) E G hA hX hN (fun _ h => h) hTS hml (v_trackScore l hst D s.heap.size ad T 0 (xs (i + 1)) aj f hg hrc h0T h0s) (vx_cwSW 3 hts (glA (L := [Cond.methodLink RL 327 yL_trackScore, Cond.static yL_trackScore, Cond.initialized RL]) (gl_in [(6, 193), (6, 194), (1, 0)] (by decide +kernel) (by decide +kernel)) ⟨(t_of [Cond.codeWith yL_trackScore cL_trackScore 4 (some .int) [(0, 8, 11, 21), (0, 8, 14, 15)]] [(6, 195)] (by decide +kernel) _ List.mem_cons_self), List.all_eq_true.mp (by decide +kernel : [Cond.codeWith yL_trackScore cL_trackScore 4 (some .int) [(0, 8, 11, 21), (0, 8, 14, 15)]].all goodWord = true) _ List.mem_cons_self⟩) rfl rfl rfl (by decide +kernel) ⟨Nat.le_of_ble_eq_true rfl, Nat.le_of_ble_eq_true rfl⟩) rfl hl.1 rfl (lv_room (Nat.le_of_ble_eq_true rfl)) dL_law_1510 ⟨by show _ ≤ 601024; omega, by show _ ≤ 7293034; omega⟩ ?_
  intro ad2 H locs had G
  rw [← had 0 h0T] at hl
  refine lv_istore (lv' := [(6, .int (vck 1 0 2 k1)), (5, .int (nI i)), (4, .ref ae), (3, .ref aj), (2, .ref (am 0)), (1, .ref (ad2 0)), (0, .ref b)]) hx hb dL_law_1513 hl (by decide) rfl (fun ls hl => ?_)
  refine lv_aload_n hx hb dL_law_1515 rfl (lv_at hl 4 rfl) ?_
  refine lv_aload_n hx hb dL_law_1516 rfl (lv_at hl 6 rfl) ?_
  refine lv_iload hx hb dL_law_1517 (lv_at hl 1 rfl) ?_
  refine lv_iconst (v := 1) hx hb dL_law_1519 (by decide) ?_
  refine lv_iadd hx hb dL_law_1520 ?_
  refine lv_to (y := nI (i + 1)) (nI_add i 1) ?_
  refine va_sld hx hb hX0 hbl (Nat.not_le.mpr hbl) G.2.2 (i := nI (i + 1)) (vp_in_nI (n := i + 1) (N := L) (by omega) (by omega)) dL_law_1521 ?_
  refine lv_to (y := xs (i + 1)) (congrArg xs (nI_clamp (by omega))) ?_
  obtain ⟨⟨r2, S1⟩, hf, hj⟩ := sj_trackScore Sm (xs (i + 1)) hJ
  have hJ1 : JJ S1 := hj
  refine y_ml (As := [.int (xs (i + 1))]) (rest := []) E G hA hX.2.2.2.2 hml (tr_trackScore l D cI cJ cZ am Sm (xs (i + 1)) hf) (cwV 1 hts (glM (L := [Cond.methodLink RL 329 yX12_trackScore, Cond.instanceMethod yX12_trackScore, Cond.selects RX12 yX12_trackScore yX12_trackScore, Cond.initialized RX12]) (gl_in [(10, 41), (10, 42), (10, 43), (1, 14)] (by decide +kernel) (by decide +kernel)) ⟨(t_of [Cond.code yX12_trackScore cX12_trackScore 2 (some .long)] [(10, 44)] (by decide +kernel) _ List.mem_cons_self), List.all_eq_true.mp (by decide +kernel : [Cond.code yX12_trackScore cX12_trackScore 2 (some .long)].all goodWord = true) _ List.mem_cons_self⟩) rfl rfl rfl (by decide +kernel) ⟨Nat.le_of_ble_eq_true rfl, Nat.le_of_ble_eq_true rfl⟩) rfl hl.1 rfl (lv_room (Nat.le_of_ble_eq_true rfl)) dL_law_1522 ⟨by show _ ≤ 601024; omega, by show _ ≤ 7293034; omega⟩ (fun H locs G => ?_)
  refine lv_lstore (lv' := [(7, .long r2), (6, .int (vck 1 0 2 k1)), (5, .int (nI i)), (4, .ref ae), (3, .ref aj), (2, .ref (am 0)), (1, .ref (ad2 0)), (0, .ref b)]) hx hb dL_law_1525 hl (by decide) rfl (fun ls hl => ?_)
  refine lv_goto (tgt := 2439) hx hb dL_law_1527 (by decide) ?_
  have hl := lv_sub hl [2, 3, 4, 5, 6, 7] rfl
  refine W.widen (k := 19 + T1.1 + (j + 1)) (n := 38467 + sg T1 + 6 * (j + 1)) (by omega) (by omega) ?_
  exact kk ad2 (vfJ k1 f r1) g H locs ls hg hf (had 0 h0T) hV1 hrc1 hJ1 G hl
end
section
/-! 17f.arm5.lean.txt -/
theorem dL_law_1530 : decode cL_law 1530 = .ok (.aload_n 1, 1) := de_43 (lb_95 (j := 10) (b := 43) rfl)
theorem dL_law_1531 : decode cL_law 1531 = .ok (.aload_n 0, 1) := de_42 (lb_95 (j := 11) (b := 42) rfl)
theorem dL_law_1532 : decode cL_law 1532 = .ok (.iload 5, 2) := de_21 (lb_95 (j := 12) (b := 21) rfl) (lb_95 (j := 13) (b := 5) rfl) rfl
theorem dL_law_1534 : decode cL_law 1534 = .ok (.iconst 1, 1) := de_4 (lb_95 (j := 14) (b := 4) rfl)
theorem dL_law_1535 : decode cL_law 1535 = .ok (.iadd, 1) := de_96 (lb_95 (j := 15) (b := 96) rfl)
theorem dL_law_1536 : decode cL_law 1536 = .ok (.iaload, 1) := de_46 (lb_96 (j := 0) (b := 46) rfl)
theorem dL_law_1537 : decode cL_law 1537 = .ok (.aload_n 0, 1) := de_42 (lb_96 (j := 1) (b := 42) rfl)
theorem dL_law_1538 : decode cL_law 1538 = .ok (.iload 5, 2) := de_21 (lb_96 (j := 2) (b := 21) rfl) (lb_96 (j := 3) (b := 5) rfl) rfl
theorem dL_law_1540 : decode cL_law 1540 = .ok (.iconst 2, 1) := de_5 (lb_96 (j := 4) (b := 5) rfl)
theorem dL_law_1541 : decode cL_law 1541 = .ok (.iadd, 1) := de_96 (lb_96 (j := 5) (b := 96) rfl)
theorem dL_law_1542 : decode cL_law 1542 = .ok (.iaload, 1) := de_46 (lb_96 (j := 6) (b := 46) rfl)
theorem dL_law_1543 : decode cL_law 1543 = .ok (.aload_n 3, 1) := de_45 (lb_96 (j := 7) (b := 45) rfl)
theorem dL_law_1544 : decode cL_law 1544 = .ok (.invokestatic 330, 3) := de_184 (lb_96 (j := 8) (b := 184) rfl) (lb_96 (j := 9) (b := 1) rfl) (lb_96 (j := 10) (b := 74) rfl) rfl
theorem dL_law_1547 : decode cL_law 1547 = .ok (.istore 6, 2) := de_54 (lb_96 (j := 11) (b := 54) rfl) (lb_96 (j := 12) (b := 6) rfl) rfl
theorem dL_law_1549 : decode cL_law 1549 = .ok (.aload_n 2, 1) := de_44 (lb_96 (j := 13) (b := 44) rfl)
theorem dL_law_1550 : decode cL_law 1550 = .ok (.aload_n 0, 1) := de_42 (lb_96 (j := 14) (b := 42) rfl)
theorem dL_law_1551 : decode cL_law 1551 = .ok (.iload 5, 2) := de_21 (lb_96 (j := 15) (b := 21) rfl) (lb_97 (j := 0) (b := 5) rfl) rfl
theorem dL_law_1553 : decode cL_law 1553 = .ok (.iconst 1, 1) := de_4 (lb_97 (j := 1) (b := 4) rfl)
theorem dL_law_1554 : decode cL_law 1554 = .ok (.iadd, 1) := de_96 (lb_97 (j := 2) (b := 96) rfl)
theorem dL_law_1555 : decode cL_law 1555 = .ok (.iaload, 1) := de_46 (lb_97 (j := 3) (b := 46) rfl)
theorem dL_law_1556 : decode cL_law 1556 = .ok (.aload_n 0, 1) := de_42 (lb_97 (j := 4) (b := 42) rfl)
theorem dL_law_1557 : decode cL_law 1557 = .ok (.iload 5, 2) := de_21 (lb_97 (j := 5) (b := 21) rfl) (lb_97 (j := 6) (b := 5) rfl) rfl
theorem dL_law_1559 : decode cL_law 1559 = .ok (.iconst 2, 1) := de_5 (lb_97 (j := 7) (b := 5) rfl)
theorem dL_law_1560 : decode cL_law 1560 = .ok (.iadd, 1) := de_96 (lb_97 (j := 8) (b := 96) rfl)
theorem dL_law_1561 : decode cL_law 1561 = .ok (.iaload, 1) := de_46 (lb_97 (j := 9) (b := 46) rfl)
theorem dL_law_1562 : decode cL_law 1562 = .ok (.invokevirtual 332, 3) := de_182 (lb_97 (j := 10) (b := 182) rfl) (lb_97 (j := 11) (b := 1) rfl) (lb_97 (j := 12) (b := 76) rfl) rfl
theorem dL_law_1565 : decode cL_law 1565 = .ok (.istore 7, 2) := de_54 (lb_97 (j := 13) (b := 54) rfl) (lb_97 (j := 14) (b := 7) rfl) rfl
theorem dL_law_1567 : decode cL_law 1567 = .ok (.goto 872, 3) := de_167 (lb_97 (j := 15) (b := 167) rfl) (lb_98 (j := 0) (b := 3) rfl) (lb_98 (j := 1) (b := 104) rfl) (by decide +kernel)
theorem dL_law_1570 : decode cL_law 1570 = .ok (.aload_n 1, 1) := de_43 (lb_98 (j := 2) (b := 43) rfl)
theorem dL_law_1571 : decode cL_law 1571 = .ok (.aload_n 0, 1) := de_42 (lb_98 (j := 3) (b := 42) rfl)
theorem dL_law_1572 : decode cL_law 1572 = .ok (.iload 5, 2) := de_21 (lb_98 (j := 4) (b := 21) rfl) (lb_98 (j := 5) (b := 5) rfl) rfl
theorem dL_law_1574 : decode cL_law 1574 = .ok (.iconst 1, 1) := de_4 (lb_98 (j := 6) (b := 4) rfl)
theorem dL_law_1575 : decode cL_law 1575 = .ok (.iadd, 1) := de_96 (lb_98 (j := 7) (b := 96) rfl)
theorem dL_law_1576 : decode cL_law 1576 = .ok (.iaload, 1) := de_46 (lb_98 (j := 8) (b := 46) rfl)
theorem dL_law_1577 : decode cL_law 1577 = .ok (.aload_n 0, 1) := de_42 (lb_98 (j := 9) (b := 42) rfl)
theorem dL_law_1578 : decode cL_law 1578 = .ok (.iload 5, 2) := de_21 (lb_98 (j := 10) (b := 21) rfl) (lb_98 (j := 11) (b := 5) rfl) rfl
theorem dL_law_1580 : decode cL_law 1580 = .ok (.iconst 2, 1) := de_5 (lb_98 (j := 12) (b := 5) rfl)
theorem dL_law_1581 : decode cL_law 1581 = .ok (.iadd, 1) := de_96 (lb_98 (j := 13) (b := 96) rfl)
theorem dL_law_1582 : decode cL_law 1582 = .ok (.iaload, 1) := de_46 (lb_98 (j := 14) (b := 46) rfl)
theorem dL_law_1583 : decode cL_law 1583 = .ok (.aload_n 0, 1) := de_42 (lb_98 (j := 15) (b := 42) rfl)
theorem dL_law_1584 : decode cL_law 1584 = .ok (.iload 5, 2) := de_21 (lb_99 (j := 0) (b := 21) rfl) (lb_99 (j := 1) (b := 5) rfl) rfl
theorem dL_law_1586 : decode cL_law 1586 = .ok (.iconst 3, 1) := de_6 (lb_99 (j := 2) (b := 6) rfl)
theorem dL_law_1587 : decode cL_law 1587 = .ok (.iadd, 1) := de_96 (lb_99 (j := 3) (b := 96) rfl)
theorem dL_law_1588 : decode cL_law 1588 = .ok (.iaload, 1) := de_46 (lb_99 (j := 4) (b := 46) rfl)
theorem dL_law_1589 : decode cL_law 1589 = .ok (.aload_n 3, 1) := de_45 (lb_99 (j := 5) (b := 45) rfl)
theorem dL_law_1590 : decode cL_law 1590 = .ok (.invokestatic 333, 3) := de_184 (lb_99 (j := 6) (b := 184) rfl) (lb_99 (j := 7) (b := 1) rfl) (lb_99 (j := 8) (b := 77) rfl) rfl
theorem dL_law_1593 : decode cL_law 1593 = .ok (.istore 6, 2) := de_54 (lb_99 (j := 9) (b := 54) rfl) (lb_99 (j := 10) (b := 6) rfl) rfl
theorem dL_law_1595 : decode cL_law 1595 = .ok (.aload_n 2, 1) := de_44 (lb_99 (j := 11) (b := 44) rfl)
theorem dL_law_1596 : decode cL_law 1596 = .ok (.aload_n 0, 1) := de_42 (lb_99 (j := 12) (b := 42) rfl)
theorem dL_law_1597 : decode cL_law 1597 = .ok (.iload 5, 2) := de_21 (lb_99 (j := 13) (b := 21) rfl) (lb_99 (j := 14) (b := 5) rfl) rfl
theorem dL_law_1599 : decode cL_law 1599 = .ok (.iconst 1, 1) := de_4 (lb_99 (j := 15) (b := 4) rfl)
theorem dL_law_1600 : decode cL_law 1600 = .ok (.iadd, 1) := de_96 (lb_100 (j := 0) (b := 96) rfl)
theorem dL_law_1601 : decode cL_law 1601 = .ok (.iaload, 1) := de_46 (lb_100 (j := 1) (b := 46) rfl)
theorem dL_law_1602 : decode cL_law 1602 = .ok (.aload_n 0, 1) := de_42 (lb_100 (j := 2) (b := 42) rfl)
theorem dL_law_1603 : decode cL_law 1603 = .ok (.iload 5, 2) := de_21 (lb_100 (j := 3) (b := 21) rfl) (lb_100 (j := 4) (b := 5) rfl) rfl
theorem dL_law_1605 : decode cL_law 1605 = .ok (.iconst 2, 1) := de_5 (lb_100 (j := 5) (b := 5) rfl)
theorem dL_law_1606 : decode cL_law 1606 = .ok (.iadd, 1) := de_96 (lb_100 (j := 6) (b := 96) rfl)
theorem dL_law_1607 : decode cL_law 1607 = .ok (.iaload, 1) := de_46 (lb_100 (j := 7) (b := 46) rfl)
theorem dL_law_1608 : decode cL_law 1608 = .ok (.aload_n 0, 1) := de_42 (lb_100 (j := 8) (b := 42) rfl)
theorem dL_law_1609 : decode cL_law 1609 = .ok (.iload 5, 2) := de_21 (lb_100 (j := 9) (b := 21) rfl) (lb_100 (j := 10) (b := 5) rfl) rfl
theorem dL_law_1611 : decode cL_law 1611 = .ok (.iconst 3, 1) := de_6 (lb_100 (j := 11) (b := 6) rfl)
theorem dL_law_1612 : decode cL_law 1612 = .ok (.iadd, 1) := de_96 (lb_100 (j := 12) (b := 96) rfl)
theorem dL_law_1613 : decode cL_law 1613 = .ok (.iaload, 1) := de_46 (lb_100 (j := 13) (b := 46) rfl)
theorem dL_law_1614 : decode cL_law 1614 = .ok (.invokevirtual 335, 3) := de_182 (lb_100 (j := 14) (b := 182) rfl) (lb_100 (j := 15) (b := 1) rfl) (lb_101 (j := 0) (b := 79) rfl) rfl
theorem dL_law_1617 : decode cL_law 1617 = .ok (.lstore 7, 2) := de_55 (lb_101 (j := 1) (b := 55) rfl) (lb_101 (j := 2) (b := 7) rfl) rfl
theorem dL_law_1619 : decode cL_law 1619 = .ok (.goto 820, 3) := de_167 (lb_101 (j := 3) (b := 167) rfl) (lb_101 (j := 4) (b := 3) rfl) (lb_101 (j := 5) (b := 52) rfl) (by decide +kernel)
theorem dL_law_1622 : decode cL_law 1622 = .ok (.aload_n 1, 1) := de_43 (lb_101 (j := 6) (b := 43) rfl)
theorem dL_law_1623 : decode cL_law 1623 = .ok (.aload_n 0, 1) := de_42 (lb_101 (j := 7) (b := 42) rfl)
theorem dL_law_1624 : decode cL_law 1624 = .ok (.iload 5, 2) := de_21 (lb_101 (j := 8) (b := 21) rfl) (lb_101 (j := 9) (b := 5) rfl) rfl
theorem dL_law_1626 : decode cL_law 1626 = .ok (.iconst 1, 1) := de_4 (lb_101 (j := 10) (b := 4) rfl)
theorem dL_law_1627 : decode cL_law 1627 = .ok (.iadd, 1) := de_96 (lb_101 (j := 11) (b := 96) rfl)
theorem dL_law_1628 : decode cL_law 1628 = .ok (.iaload, 1) := de_46 (lb_101 (j := 12) (b := 46) rfl)
theorem dL_law_1629 : decode cL_law 1629 = .ok (.aload_n 0, 1) := de_42 (lb_101 (j := 13) (b := 42) rfl)
theorem dL_law_1630 : decode cL_law 1630 = .ok (.iload 5, 2) := de_21 (lb_101 (j := 14) (b := 21) rfl) (lb_101 (j := 15) (b := 5) rfl) rfl
theorem dL_law_1632 : decode cL_law 1632 = .ok (.iconst 2, 1) := de_5 (lb_102 (j := 0) (b := 5) rfl)
theorem dL_law_1633 : decode cL_law 1633 = .ok (.iadd, 1) := de_96 (lb_102 (j := 1) (b := 96) rfl)
theorem dL_law_1634 : decode cL_law 1634 = .ok (.iaload, 1) := de_46 (lb_102 (j := 2) (b := 46) rfl)
theorem dL_law_1635 : decode cL_law 1635 = .ok (.aload_n 0, 1) := de_42 (lb_102 (j := 3) (b := 42) rfl)
theorem dL_law_1636 : decode cL_law 1636 = .ok (.iload 5, 2) := de_21 (lb_102 (j := 4) (b := 21) rfl) (lb_102 (j := 5) (b := 5) rfl) rfl
theorem dL_law_1638 : decode cL_law 1638 = .ok (.iconst 3, 1) := de_6 (lb_102 (j := 6) (b := 6) rfl)
theorem dL_law_1639 : decode cL_law 1639 = .ok (.iadd, 1) := de_96 (lb_102 (j := 7) (b := 96) rfl)
theorem dL_law_1640 : decode cL_law 1640 = .ok (.iaload, 1) := de_46 (lb_102 (j := 8) (b := 46) rfl)
theorem dL_law_1641 : decode cL_law 1641 = .ok (.aload_n 3, 1) := de_45 (lb_102 (j := 9) (b := 45) rfl)
theorem dL_law_1642 : decode cL_law 1642 = .ok (.invokestatic 336, 3) := de_184 (lb_102 (j := 10) (b := 184) rfl) (lb_102 (j := 11) (b := 1) rfl) (lb_102 (j := 12) (b := 80) rfl) rfl
theorem dL_law_1645 : decode cL_law 1645 = .ok (.istore 6, 2) := de_54 (lb_102 (j := 13) (b := 54) rfl) (lb_102 (j := 14) (b := 6) rfl) rfl
theorem dL_law_1647 : decode cL_law 1647 = .ok (.aload_n 2, 1) := de_44 (lb_102 (j := 15) (b := 44) rfl)
theorem dL_law_1648 : decode cL_law 1648 = .ok (.aload_n 0, 1) := de_42 (lb_103 (j := 0) (b := 42) rfl)
theorem dL_law_1649 : decode cL_law 1649 = .ok (.iload 5, 2) := de_21 (lb_103 (j := 1) (b := 21) rfl) (lb_103 (j := 2) (b := 5) rfl) rfl
theorem dL_law_1651 : decode cL_law 1651 = .ok (.iconst 1, 1) := de_4 (lb_103 (j := 3) (b := 4) rfl)
theorem dL_law_1652 : decode cL_law 1652 = .ok (.iadd, 1) := de_96 (lb_103 (j := 4) (b := 96) rfl)
theorem dL_law_1653 : decode cL_law 1653 = .ok (.iaload, 1) := de_46 (lb_103 (j := 5) (b := 46) rfl)
theorem dL_law_1654 : decode cL_law 1654 = .ok (.aload_n 0, 1) := de_42 (lb_103 (j := 6) (b := 42) rfl)
theorem dL_law_1655 : decode cL_law 1655 = .ok (.iload 5, 2) := de_21 (lb_103 (j := 7) (b := 21) rfl) (lb_103 (j := 8) (b := 5) rfl) rfl
theorem dL_law_1657 : decode cL_law 1657 = .ok (.iconst 2, 1) := de_5 (lb_103 (j := 9) (b := 5) rfl)
theorem dL_law_1658 : decode cL_law 1658 = .ok (.iadd, 1) := de_96 (lb_103 (j := 10) (b := 96) rfl)
theorem dL_law_1659 : decode cL_law 1659 = .ok (.iaload, 1) := de_46 (lb_103 (j := 11) (b := 46) rfl)
theorem dL_law_1660 : decode cL_law 1660 = .ok (.aload_n 0, 1) := de_42 (lb_103 (j := 12) (b := 42) rfl)
theorem dL_law_1661 : decode cL_law 1661 = .ok (.iload 5, 2) := de_21 (lb_103 (j := 13) (b := 21) rfl) (lb_103 (j := 14) (b := 5) rfl) rfl
theorem dL_law_1663 : decode cL_law 1663 = .ok (.iconst 3, 1) := de_6 (lb_103 (j := 15) (b := 6) rfl)
theorem dL_law_1664 : decode cL_law 1664 = .ok (.iadd, 1) := de_96 (lb_104 (j := 0) (b := 96) rfl)
theorem dL_law_1665 : decode cL_law 1665 = .ok (.iaload, 1) := de_46 (lb_104 (j := 1) (b := 46) rfl)
theorem dL_law_1666 : decode cL_law 1666 = .ok (.invokevirtual 338, 3) := de_182 (lb_104 (j := 2) (b := 182) rfl) (lb_104 (j := 3) (b := 1) rfl) (lb_104 (j := 4) (b := 82) rfl) rfl
theorem dL_law_1669 : decode cL_law 1669 = .ok (.istore 7, 2) := de_54 (lb_104 (j := 5) (b := 54) rfl) (lb_104 (j := 6) (b := 7) rfl) rfl
theorem dL_law_1671 : decode cL_law 1671 = .ok (.goto 768, 3) := de_167 (lb_104 (j := 7) (b := 167) rfl) (lb_104 (j := 8) (b := 3) rfl) (lb_104 (j := 9) (b := 0) rfl) (by decide +kernel)
theorem dL_law_1674 : decode cL_law 1674 = .ok (.aload_n 1, 1) := de_43 (lb_104 (j := 10) (b := 43) rfl)
theorem dL_law_1675 : decode cL_law 1675 = .ok (.aload_n 0, 1) := de_42 (lb_104 (j := 11) (b := 42) rfl)
theorem dL_law_1676 : decode cL_law 1676 = .ok (.iload 5, 2) := de_21 (lb_104 (j := 12) (b := 21) rfl) (lb_104 (j := 13) (b := 5) rfl) rfl
theorem dL_law_1678 : decode cL_law 1678 = .ok (.iconst 1, 1) := de_4 (lb_104 (j := 14) (b := 4) rfl)
theorem dL_law_1679 : decode cL_law 1679 = .ok (.iadd, 1) := de_96 (lb_104 (j := 15) (b := 96) rfl)
theorem dL_law_1680 : decode cL_law 1680 = .ok (.iaload, 1) := de_46 (lb_105 (j := 0) (b := 46) rfl)
theorem dL_law_1681 : decode cL_law 1681 = .ok (.aload_n 0, 1) := de_42 (lb_105 (j := 1) (b := 42) rfl)
theorem dL_law_1682 : decode cL_law 1682 = .ok (.iload 5, 2) := de_21 (lb_105 (j := 2) (b := 21) rfl) (lb_105 (j := 3) (b := 5) rfl) rfl
theorem dL_law_1684 : decode cL_law 1684 = .ok (.iconst 2, 1) := de_5 (lb_105 (j := 4) (b := 5) rfl)
theorem dL_law_1685 : decode cL_law 1685 = .ok (.iadd, 1) := de_96 (lb_105 (j := 5) (b := 96) rfl)
theorem dL_law_1686 : decode cL_law 1686 = .ok (.iaload, 1) := de_46 (lb_105 (j := 6) (b := 46) rfl)
theorem dL_law_1687 : decode cL_law 1687 = .ok (.aload_n 0, 1) := de_42 (lb_105 (j := 7) (b := 42) rfl)
theorem dL_law_1688 : decode cL_law 1688 = .ok (.iload 5, 2) := de_21 (lb_105 (j := 8) (b := 21) rfl) (lb_105 (j := 9) (b := 5) rfl) rfl
theorem dL_law_1690 : decode cL_law 1690 = .ok (.iconst 3, 1) := de_6 (lb_105 (j := 10) (b := 6) rfl)
theorem dL_law_1691 : decode cL_law 1691 = .ok (.iadd, 1) := de_96 (lb_105 (j := 11) (b := 96) rfl)
theorem dL_law_1692 : decode cL_law 1692 = .ok (.iaload, 1) := de_46 (lb_105 (j := 12) (b := 46) rfl)
theorem dL_law_1693 : decode cL_law 1693 = .ok (.aload_n 3, 1) := de_45 (lb_105 (j := 13) (b := 45) rfl)
theorem dL_law_1694 : decode cL_law 1694 = .ok (.invokestatic 339, 3) := de_184 (lb_105 (j := 14) (b := 184) rfl) (lb_105 (j := 15) (b := 1) rfl) (lb_106 (j := 0) (b := 83) rfl) rfl
theorem dL_law_1697 : decode cL_law 1697 = .ok (.istore 6, 2) := de_54 (lb_106 (j := 1) (b := 54) rfl) (lb_106 (j := 2) (b := 6) rfl) rfl
theorem dL_law_1699 : decode cL_law 1699 = .ok (.aload_n 2, 1) := de_44 (lb_106 (j := 3) (b := 44) rfl)
theorem dL_law_1700 : decode cL_law 1700 = .ok (.aload_n 0, 1) := de_42 (lb_106 (j := 4) (b := 42) rfl)
theorem dL_law_1701 : decode cL_law 1701 = .ok (.iload 5, 2) := de_21 (lb_106 (j := 5) (b := 21) rfl) (lb_106 (j := 6) (b := 5) rfl) rfl
theorem dL_law_1703 : decode cL_law 1703 = .ok (.iconst 1, 1) := de_4 (lb_106 (j := 7) (b := 4) rfl)
theorem dL_law_1704 : decode cL_law 1704 = .ok (.iadd, 1) := de_96 (lb_106 (j := 8) (b := 96) rfl)
theorem dL_law_1705 : decode cL_law 1705 = .ok (.iaload, 1) := de_46 (lb_106 (j := 9) (b := 46) rfl)
theorem dL_law_1706 : decode cL_law 1706 = .ok (.aload_n 0, 1) := de_42 (lb_106 (j := 10) (b := 42) rfl)
theorem dL_law_1707 : decode cL_law 1707 = .ok (.iload 5, 2) := de_21 (lb_106 (j := 11) (b := 21) rfl) (lb_106 (j := 12) (b := 5) rfl) rfl
theorem dL_law_1709 : decode cL_law 1709 = .ok (.iconst 2, 1) := de_5 (lb_106 (j := 13) (b := 5) rfl)
theorem dL_law_1710 : decode cL_law 1710 = .ok (.iadd, 1) := de_96 (lb_106 (j := 14) (b := 96) rfl)
theorem dL_law_1711 : decode cL_law 1711 = .ok (.iaload, 1) := de_46 (lb_106 (j := 15) (b := 46) rfl)
theorem dL_law_1712 : decode cL_law 1712 = .ok (.aload_n 0, 1) := de_42 (lb_107 (j := 0) (b := 42) rfl)
theorem dL_law_1713 : decode cL_law 1713 = .ok (.iload 5, 2) := de_21 (lb_107 (j := 1) (b := 21) rfl) (lb_107 (j := 2) (b := 5) rfl) rfl
theorem dL_law_1715 : decode cL_law 1715 = .ok (.iconst 3, 1) := de_6 (lb_107 (j := 3) (b := 6) rfl)
theorem dL_law_1716 : decode cL_law 1716 = .ok (.iadd, 1) := de_96 (lb_107 (j := 4) (b := 96) rfl)
theorem dL_law_1717 : decode cL_law 1717 = .ok (.iaload, 1) := de_46 (lb_107 (j := 5) (b := 46) rfl)
theorem dL_law_1718 : decode cL_law 1718 = .ok (.invokevirtual 341, 3) := de_182 (lb_107 (j := 6) (b := 182) rfl) (lb_107 (j := 7) (b := 1) rfl) (lb_107 (j := 8) (b := 85) rfl) rfl
theorem dL_law_1721 : decode cL_law 1721 = .ok (.lstore 7, 2) := de_55 (lb_107 (j := 9) (b := 55) rfl) (lb_107 (j := 10) (b := 7) rfl) rfl
theorem dL_law_1723 : decode cL_law 1723 = .ok (.goto 716, 3) := de_167 (lb_107 (j := 11) (b := 167) rfl) (lb_107 (j := 12) (b := 2) rfl) (lb_107 (j := 13) (b := 204) rfl) (by decide +kernel)
theorem dL_law_1726 : decode cL_law 1726 = .ok (.aload_n 1, 1) := de_43 (lb_107 (j := 14) (b := 43) rfl)
theorem dL_law_1727 : decode cL_law 1727 = .ok (.aload_n 0, 1) := de_42 (lb_107 (j := 15) (b := 42) rfl)
theorem dL_law_1728 : decode cL_law 1728 = .ok (.iload 5, 2) := de_21 (lb_108 (j := 0) (b := 21) rfl) (lb_108 (j := 1) (b := 5) rfl) rfl
theorem dL_law_1730 : decode cL_law 1730 = .ok (.iconst 1, 1) := de_4 (lb_108 (j := 2) (b := 4) rfl)
theorem dL_law_1731 : decode cL_law 1731 = .ok (.iadd, 1) := de_96 (lb_108 (j := 3) (b := 96) rfl)
theorem dL_law_1732 : decode cL_law 1732 = .ok (.iaload, 1) := de_46 (lb_108 (j := 4) (b := 46) rfl)
theorem dL_law_1733 : decode cL_law 1733 = .ok (.aload_n 0, 1) := de_42 (lb_108 (j := 5) (b := 42) rfl)
theorem dL_law_1734 : decode cL_law 1734 = .ok (.iload 5, 2) := de_21 (lb_108 (j := 6) (b := 21) rfl) (lb_108 (j := 7) (b := 5) rfl) rfl
theorem dL_law_1736 : decode cL_law 1736 = .ok (.iconst 2, 1) := de_5 (lb_108 (j := 8) (b := 5) rfl)
theorem dL_law_1737 : decode cL_law 1737 = .ok (.iadd, 1) := de_96 (lb_108 (j := 9) (b := 96) rfl)
theorem dL_law_1738 : decode cL_law 1738 = .ok (.iaload, 1) := de_46 (lb_108 (j := 10) (b := 46) rfl)
theorem dL_law_1739 : decode cL_law 1739 = .ok (.aload_n 0, 1) := de_42 (lb_108 (j := 11) (b := 42) rfl)
theorem dL_law_1740 : decode cL_law 1740 = .ok (.iload 5, 2) := de_21 (lb_108 (j := 12) (b := 21) rfl) (lb_108 (j := 13) (b := 5) rfl) rfl
theorem dL_law_1742 : decode cL_law 1742 = .ok (.iconst 3, 1) := de_6 (lb_108 (j := 14) (b := 6) rfl)
theorem dL_law_1743 : decode cL_law 1743 = .ok (.iadd, 1) := de_96 (lb_108 (j := 15) (b := 96) rfl)
theorem dL_law_1744 : decode cL_law 1744 = .ok (.iaload, 1) := de_46 (lb_109 (j := 0) (b := 46) rfl)
theorem dL_law_1745 : decode cL_law 1745 = .ok (.aload_n 3, 1) := de_45 (lb_109 (j := 1) (b := 45) rfl)
theorem dL_law_1746 : decode cL_law 1746 = .ok (.invokestatic 342, 3) := de_184 (lb_109 (j := 2) (b := 184) rfl) (lb_109 (j := 3) (b := 1) rfl) (lb_109 (j := 4) (b := 86) rfl) rfl
theorem dL_law_1749 : decode cL_law 1749 = .ok (.istore 6, 2) := de_54 (lb_109 (j := 5) (b := 54) rfl) (lb_109 (j := 6) (b := 6) rfl) rfl
theorem dL_law_1751 : decode cL_law 1751 = .ok (.aload_n 2, 1) := de_44 (lb_109 (j := 7) (b := 44) rfl)
theorem dL_law_1752 : decode cL_law 1752 = .ok (.aload_n 0, 1) := de_42 (lb_109 (j := 8) (b := 42) rfl)
theorem dL_law_1753 : decode cL_law 1753 = .ok (.iload 5, 2) := de_21 (lb_109 (j := 9) (b := 21) rfl) (lb_109 (j := 10) (b := 5) rfl) rfl
theorem dL_law_1755 : decode cL_law 1755 = .ok (.iconst 1, 1) := de_4 (lb_109 (j := 11) (b := 4) rfl)
theorem dL_law_1756 : decode cL_law 1756 = .ok (.iadd, 1) := de_96 (lb_109 (j := 12) (b := 96) rfl)
theorem dL_law_1757 : decode cL_law 1757 = .ok (.iaload, 1) := de_46 (lb_109 (j := 13) (b := 46) rfl)
theorem dL_law_1758 : decode cL_law 1758 = .ok (.aload_n 0, 1) := de_42 (lb_109 (j := 14) (b := 42) rfl)
theorem dL_law_1759 : decode cL_law 1759 = .ok (.iload 5, 2) := de_21 (lb_109 (j := 15) (b := 21) rfl) (lb_110 (j := 0) (b := 5) rfl) rfl
theorem dL_law_1761 : decode cL_law 1761 = .ok (.iconst 2, 1) := de_5 (lb_110 (j := 1) (b := 5) rfl)
theorem dL_law_1762 : decode cL_law 1762 = .ok (.iadd, 1) := de_96 (lb_110 (j := 2) (b := 96) rfl)
theorem dL_law_1763 : decode cL_law 1763 = .ok (.iaload, 1) := de_46 (lb_110 (j := 3) (b := 46) rfl)
theorem dL_law_1764 : decode cL_law 1764 = .ok (.aload_n 0, 1) := de_42 (lb_110 (j := 4) (b := 42) rfl)
theorem dL_law_1765 : decode cL_law 1765 = .ok (.iload 5, 2) := de_21 (lb_110 (j := 5) (b := 21) rfl) (lb_110 (j := 6) (b := 5) rfl) rfl
theorem dL_law_1767 : decode cL_law 1767 = .ok (.iconst 3, 1) := de_6 (lb_110 (j := 7) (b := 6) rfl)
theorem dL_law_1768 : decode cL_law 1768 = .ok (.iadd, 1) := de_96 (lb_110 (j := 8) (b := 96) rfl)
theorem dL_law_1769 : decode cL_law 1769 = .ok (.iaload, 1) := de_46 (lb_110 (j := 9) (b := 46) rfl)
theorem dL_law_1770 : decode cL_law 1770 = .ok (.invokevirtual 344, 3) := de_182 (lb_110 (j := 10) (b := 182) rfl) (lb_110 (j := 11) (b := 1) rfl) (lb_110 (j := 12) (b := 88) rfl) rfl
theorem dL_law_1773 : decode cL_law 1773 = .ok (.istore 7, 2) := de_54 (lb_110 (j := 13) (b := 54) rfl) (lb_110 (j := 14) (b := 7) rfl) rfl
theorem dL_law_1775 : decode cL_law 1775 = .ok (.goto 664, 3) := de_167 (lb_110 (j := 15) (b := 167) rfl) (lb_111 (j := 0) (b := 2) rfl) (lb_111 (j := 1) (b := 152) rfl) (by decide +kernel)
theorem dL_law_1778 : decode cL_law 1778 = .ok (.aload_n 1, 1) := de_43 (lb_111 (j := 2) (b := 43) rfl)
theorem dL_law_1779 : decode cL_law 1779 = .ok (.aload_n 0, 1) := de_42 (lb_111 (j := 3) (b := 42) rfl)
theorem dL_law_1780 : decode cL_law 1780 = .ok (.iload 5, 2) := de_21 (lb_111 (j := 4) (b := 21) rfl) (lb_111 (j := 5) (b := 5) rfl) rfl
theorem dL_law_1782 : decode cL_law 1782 = .ok (.iconst 1, 1) := de_4 (lb_111 (j := 6) (b := 4) rfl)
theorem dL_law_1783 : decode cL_law 1783 = .ok (.iadd, 1) := de_96 (lb_111 (j := 7) (b := 96) rfl)
theorem dL_law_1784 : decode cL_law 1784 = .ok (.iaload, 1) := de_46 (lb_111 (j := 8) (b := 46) rfl)
theorem dL_law_1785 : decode cL_law 1785 = .ok (.aload_n 3, 1) := de_45 (lb_111 (j := 9) (b := 45) rfl)
theorem dL_law_1786 : decode cL_law 1786 = .ok (.invokestatic 345, 3) := de_184 (lb_111 (j := 10) (b := 184) rfl) (lb_111 (j := 11) (b := 1) rfl) (lb_111 (j := 12) (b := 89) rfl) rfl
theorem dL_law_1789 : decode cL_law 1789 = .ok (.istore 6, 2) := de_54 (lb_111 (j := 13) (b := 54) rfl) (lb_111 (j := 14) (b := 6) rfl) rfl
theorem dL_law_1791 : decode cL_law 1791 = .ok (.aload_n 2, 1) := de_44 (lb_111 (j := 15) (b := 44) rfl)
theorem dL_law_1792 : decode cL_law 1792 = .ok (.aload_n 0, 1) := de_42 (lb_112 (j := 0) (b := 42) rfl)
theorem dL_law_1793 : decode cL_law 1793 = .ok (.iload 5, 2) := de_21 (lb_112 (j := 1) (b := 21) rfl) (lb_112 (j := 2) (b := 5) rfl) rfl
theorem dL_law_1795 : decode cL_law 1795 = .ok (.iconst 1, 1) := de_4 (lb_112 (j := 3) (b := 4) rfl)
theorem dL_law_1796 : decode cL_law 1796 = .ok (.iadd, 1) := de_96 (lb_112 (j := 4) (b := 96) rfl)
theorem dL_law_1797 : decode cL_law 1797 = .ok (.iaload, 1) := de_46 (lb_112 (j := 5) (b := 46) rfl)
theorem dL_law_1798 : decode cL_law 1798 = .ok (.invokevirtual 347, 3) := de_182 (lb_112 (j := 6) (b := 182) rfl) (lb_112 (j := 7) (b := 1) rfl) (lb_112 (j := 8) (b := 91) rfl) rfl
theorem dL_law_1801 : decode cL_law 1801 = .ok (.lstore 7, 2) := de_55 (lb_112 (j := 9) (b := 55) rfl) (lb_112 (j := 10) (b := 7) rfl) rfl
theorem dL_law_1803 : decode cL_law 1803 = .ok (.goto 636, 3) := de_167 (lb_112 (j := 11) (b := 167) rfl) (lb_112 (j := 12) (b := 2) rfl) (lb_112 (j := 13) (b := 124) rfl) (by decide +kernel)
theorem dL_law_1806 : decode cL_law 1806 = .ok (.aload_n 1, 1) := de_43 (lb_112 (j := 14) (b := 43) rfl)
theorem dL_law_1807 : decode cL_law 1807 = .ok (.aload_n 0, 1) := de_42 (lb_112 (j := 15) (b := 42) rfl)
theorem dL_law_1808 : decode cL_law 1808 = .ok (.iload 5, 2) := de_21 (lb_113 (j := 0) (b := 21) rfl) (lb_113 (j := 1) (b := 5) rfl) rfl
theorem dL_law_1810 : decode cL_law 1810 = .ok (.iconst 1, 1) := de_4 (lb_113 (j := 2) (b := 4) rfl)
theorem dL_law_1811 : decode cL_law 1811 = .ok (.iadd, 1) := de_96 (lb_113 (j := 3) (b := 96) rfl)
theorem dL_law_1812 : decode cL_law 1812 = .ok (.iaload, 1) := de_46 (lb_113 (j := 4) (b := 46) rfl)
theorem dL_law_1813 : decode cL_law 1813 = .ok (.aload_n 3, 1) := de_45 (lb_113 (j := 5) (b := 45) rfl)
theorem dL_law_1814 : decode cL_law 1814 = .ok (.invokestatic 348, 3) := de_184 (lb_113 (j := 6) (b := 184) rfl) (lb_113 (j := 7) (b := 1) rfl) (lb_113 (j := 8) (b := 92) rfl) rfl
theorem dL_law_1817 : decode cL_law 1817 = .ok (.istore 6, 2) := de_54 (lb_113 (j := 9) (b := 54) rfl) (lb_113 (j := 10) (b := 6) rfl) rfl
theorem dL_law_1819 : decode cL_law 1819 = .ok (.aload_n 2, 1) := de_44 (lb_113 (j := 11) (b := 44) rfl)
theorem dL_law_1820 : decode cL_law 1820 = .ok (.aload_n 0, 1) := de_42 (lb_113 (j := 12) (b := 42) rfl)
theorem dL_law_1821 : decode cL_law 1821 = .ok (.iload 5, 2) := de_21 (lb_113 (j := 13) (b := 21) rfl) (lb_113 (j := 14) (b := 5) rfl) rfl
theorem dL_law_1823 : decode cL_law 1823 = .ok (.iconst 1, 1) := de_4 (lb_113 (j := 15) (b := 4) rfl)
theorem dL_law_1824 : decode cL_law 1824 = .ok (.iadd, 1) := de_96 (lb_114 (j := 0) (b := 96) rfl)
theorem dL_law_1825 : decode cL_law 1825 = .ok (.iaload, 1) := de_46 (lb_114 (j := 1) (b := 46) rfl)
theorem dL_law_1826 : decode cL_law 1826 = .ok (.invokevirtual 350, 3) := de_182 (lb_114 (j := 2) (b := 182) rfl) (lb_114 (j := 3) (b := 1) rfl) (lb_114 (j := 4) (b := 94) rfl) rfl
theorem dL_law_1829 : decode cL_law 1829 = .ok (.istore 7, 2) := de_54 (lb_114 (j := 5) (b := 54) rfl) (lb_114 (j := 6) (b := 7) rfl) rfl
theorem dL_law_1831 : decode cL_law 1831 = .ok (.goto 608, 3) := de_167 (lb_114 (j := 7) (b := 167) rfl) (lb_114 (j := 8) (b := 2) rfl) (lb_114 (j := 9) (b := 96) rfl) (by decide +kernel)
theorem dL_law_1834 : decode cL_law 1834 = .ok (.aload_n 1, 1) := de_43 (lb_114 (j := 10) (b := 43) rfl)
theorem dL_law_1835 : decode cL_law 1835 = .ok (.aload_n 3, 1) := de_45 (lb_114 (j := 11) (b := 45) rfl)
theorem dL_law_1836 : decode cL_law 1836 = .ok (.invokestatic 351, 3) := de_184 (lb_114 (j := 12) (b := 184) rfl) (lb_114 (j := 13) (b := 1) rfl) (lb_114 (j := 14) (b := 95) rfl) rfl
theorem dL_law_1839 : decode cL_law 1839 = .ok (.istore 6, 2) := de_54 (lb_114 (j := 15) (b := 54) rfl) (lb_115 (j := 0) (b := 6) rfl) rfl
theorem dL_law_1841 : decode cL_law 1841 = .ok (.aload_n 2, 1) := de_44 (lb_115 (j := 1) (b := 44) rfl)
theorem dL_law_1842 : decode cL_law 1842 = .ok (.invokevirtual 353, 3) := de_182 (lb_115 (j := 2) (b := 182) rfl) (lb_115 (j := 3) (b := 1) rfl) (lb_115 (j := 4) (b := 97) rfl) rfl
theorem dL_law_1845 : decode cL_law 1845 = .ok (.istore 7, 2) := de_54 (lb_115 (j := 5) (b := 54) rfl) (lb_115 (j := 6) (b := 7) rfl) rfl
theorem dL_law_1847 : decode cL_law 1847 = .ok (.aload_n 2, 1) := de_44 (lb_115 (j := 7) (b := 44) rfl)
theorem dL_law_1848 : decode cL_law 1848 = .ok (.invokevirtual 354, 3) := de_182 (lb_115 (j := 8) (b := 182) rfl) (lb_115 (j := 9) (b := 1) rfl) (lb_115 (j := 10) (b := 98) rfl) rfl
theorem dL_law_1851 : decode cL_law 1851 = .ok (.iload 6, 2) := de_21 (lb_115 (j := 11) (b := 21) rfl) (lb_115 (j := 12) (b := 6) rfl) rfl
theorem dL_law_1853 : decode cL_law 1853 = .ok (.if_icmp .eq 5, 3) := de_159 (lb_115 (j := 13) (b := 159) rfl) (lb_115 (j := 14) (b := 0) rfl) (lb_115 (j := 15) (b := 5) rfl) (by decide +kernel)
theorem dL_law_1858 : decode cL_law 1858 = .ok (.iload 6, 2) := de_21 (lb_116 (j := 2) (b := 21) rfl) (lb_116 (j := 3) (b := 6) rfl) rfl
theorem dL_law_1860 : decode cL_law 1860 = .ok (.ifCond .ne 15, 3) := de_154 (lb_116 (j := 4) (b := 154) rfl) (lb_116 (j := 5) (b := 0) rfl) (lb_116 (j := 6) (b := 15) rfl) (by decide +kernel)
theorem dL_law_1863 : decode cL_law 1863 = .ok (.aload_n 3, 1) := de_45 (lb_116 (j := 7) (b := 45) rfl)
theorem dL_law_1864 : decode cL_law 1864 = .ok (.iconst 0, 1) := de_3 (lb_116 (j := 8) (b := 3) rfl)
theorem dL_law_1865 : decode cL_law 1865 = .ok (.laload, 1) := de_47 (lb_116 (j := 9) (b := 47) rfl)
theorem dL_law_1866 : decode cL_law 1866 = .ok (.iload 7, 2) := de_21 (lb_116 (j := 10) (b := 21) rfl) (lb_116 (j := 11) (b := 7) rfl) rfl
theorem dL_law_1868 : decode cL_law 1868 = .ok (.i2l, 1) := de_133 (lb_116 (j := 12) (b := 133) rfl)
theorem dL_law_1869 : decode cL_law 1869 = .ok (.lcmp, 1) := de_148 (lb_116 (j := 13) (b := 148) rfl)
theorem dL_law_1870 : decode cL_law 1870 = .ok (.ifCond .eq 5, 3) := de_153 (lb_116 (j := 14) (b := 153) rfl) (lb_116 (j := 15) (b := 0) rfl) (lb_117 (j := 0) (b := 5) rfl) (by decide +kernel)
theorem dL_law_1875 : decode cL_law 1875 = .ok (.goto 564, 3) := de_167 (lb_117 (j := 3) (b := 167) rfl) (lb_117 (j := 4) (b := 2) rfl) (lb_117 (j := 5) (b := 52) rfl) (by decide +kernel)
set_option maxHeartbeats 4000000 in
set_option maxRecDepth 100000 in
theorem y_a40 {p : Program} {e : Env} {s : State} {m : MethodId} {below : List Frame} {meth : Method} {c : Code} (l : Launch) (hst : l.stackTraces = false) {b L : Nat} {xs : Nat → Int32} (hx : p.tables.exec = Jvm.exec) (hb : c.code = code) (hml : c.maxLocals = 9) (hown : s.vm.findClass RL = some m.cls) (hts : ∀ w ∈ lw_tbl, w.before #[Value.ref b] s = true) (hX0 : va_X b L xs s s.heap) (hbl : b < s.heap.size) (hX : xT (fun q => s.heap.size ≤ q) s) (hN : nC s) (hTS : sAll s.heap.size s) {D : va_G} {cI cJ cZ cMic cSrc cSt cAI cAJ cD : ClassId} (hK : va_K D vwCl (CT cI cJ cZ cMic cSrc cSt cAI cAJ ++ [(cD, .double)]) s) {Q : State → Prop} {i j : Nat} (hi : i + 6 ≤ L) (hL : L ≤ 3072) (hj : j < 512) {aj ae : Nat} {ad am : Nat → Nat} {T : AT} {Sm : MS} {f : Nat → Int64} {g : Nat → UInt64} {ls : Array Slot} {H : Heap} {locs : List Loc} (hV : IV aR0 1586 aK1 aK2 T) (hrc : RC T) (hJ : JJ Sm) (G : gL cI cJ cZ cMic cSrc cSt cAI cAJ D ad (fun q => s.heap.size ≤ q) s.heap H locs T (oJ aj cJ f :: oD ae cD g :: MW cI cJ cZ am Sm)) (hl : lv_has ls 9 [(5, .int (nI i)), (4, .ref ae), (3, .ref aj), (2, .ref (am 0)), (1, .ref (ad 0)), (0, .ref b)]) (kk : ∀ {k1 : Nat} {r1 : Int32} {T1 : AT} {r2 : Int32} {S1 : MS} (ad2 : Nat → Nat) (f1 : Nat → Int64) (g1 : Nat → UInt64) (H1 : Heap) (locs1 : List Loc) (ls1 : Array Slot), g_X11_trackCell T 0 (xs (i + 1)) (xs (i + 2)) = some (k1, r1, T1) → fr_trackCell Sm (xs (i + 1)) (xs (i + 2)) = some (r2, S1) → ad2 0 = ad 0 → IV aR0 1586 aK1 aK2 T1 → RC T1 → JJ S1 → gL cI cJ cZ cMic cSrc cSt cAI cAJ D ad2 (fun q => s.heap.size ≤ q) s.heap H1 locs1 T1 (oJ aj cJ f1 :: oD ae cD g1 :: MW cI cJ cZ am S1) → lv_has ls1 9 [(5, .int (nI i)), (4, .ref ae), (3, .ref aj), (2, .ref (am 0)), (1, .ref (ad2 0)), (0, .ref b)] → W p l e room_1 s m #[Value.ref b] below meth c H1 locs1 (19 + T1.1 + (j + 1)) (38467 + sg T1 + 6 * (j + 1)) Q (F0 m 2439 ls1 [])) : W p l e room_1 s m #[Value.ref b] below meth c H locs (19 + T.1 + j) (38467 + sg T + 6 * j) Q (F0 m 1530 ls []) := by
  have E : cE p c cL_law s m #[Value.ref b] lw_tbl D RL (CT cI cJ cZ cMic cSrc cSt cAI cAJ ++ [(cD, .double)]) := ⟨hx, hb, hts, hown, hK⟩
  have hA : ∀ q : Nat, s.heap.size ≤ q → s.heap.size ≤ q := fun _ h => h
  have h0T : 0 < T.1 := Nat.lt_of_lt_of_le (by decide) hV.1.2.2
  have h0s : T.2.1 0 = (11, 0) := hV.2.1 0 ⟨by decide, by decide +kernel, by decide +kernel⟩
  refine lv_aload_n hx hb dL_law_1530 rfl (lv_at hl 4 rfl) ?_
  refine lv_aload_n hx hb dL_law_1531 rfl (lv_at hl 5 rfl) ?_
  refine lv_iload hx hb dL_law_1532 (lv_at hl 0 rfl) ?_
  refine lv_iconst (v := 1) hx hb dL_law_1534 (by decide) ?_
  refine lv_iadd hx hb dL_law_1535 ?_
  refine lv_to (y := nI (i + 1)) (nI_add i 1) ?_
  refine va_sld hx hb hX0 hbl (Nat.not_le.mpr hbl) G.2.2 (i := nI (i + 1)) (vp_in_nI (n := i + 1) (N := L) (by omega) (by omega)) dL_law_1536 ?_
  refine lv_to (y := xs (i + 1)) (congrArg xs (nI_clamp (by omega))) ?_
  refine lv_aload_n hx hb dL_law_1537 rfl (lv_at hl 5 rfl) ?_
  refine lv_iload hx hb dL_law_1538 (lv_at hl 0 rfl) ?_
  refine lv_iconst (v := 2) hx hb dL_law_1540 (by decide) ?_
  refine lv_iadd hx hb dL_law_1541 ?_
  refine lv_to (y := nI (i + 2)) (nI_add i 2) ?_
  refine va_sld hx hb hX0 hbl (Nat.not_le.mpr hbl) G.2.2 (i := nI (i + 2)) (vp_in_nI (n := i + 2) (N := L) (by omega) (by omega)) dL_law_1542 ?_
  refine lv_to (y := xs (i + 2)) (congrArg xs (nI_clamp (by omega))) ?_
  refine lv_aload_n hx hb dL_law_1543 rfl (lv_at hl 2 rfl) ?_
  obtain ⟨⟨k1, r1, T1⟩, hg, hc⟩ := cs_X11_trackCell T 0 (xs (i + 1)) (xs (i + 2)) hV (by decide +kernel)
  have hV1 : IV aR0 1586 aK1 aK2 T1 := hc.1.1
  have hg1 := s_X11_trackCell hg
  have hg2 := sg_le hg1
  have hg3 := hg1.1
  have hk := hV1.2.2.2.2.2.2
  have hrc1 := hg1.2.2 hrc
  have hr0 := a_room
  refine l_v (h0 := s.heap.size) (As := [.ref (ad 0), .int (xs (i + 1)), .int (xs (i + 2)), .ref aj]) (rest := []) E G hA hX hN (fun _ h => h) hTS hml (v_trackCell l hst D s.heap.size ad T 0 (xs (i + 1)) (xs (i + 2)) aj f hg hrc h0T h0s) (vx_cwSW 4 hts (glA (L := [Cond.methodLink RL 330 yL_trackCell, Cond.static yL_trackCell, Cond.initialized RL]) (gl_in [(6, 212), (6, 213), (1, 0)] (by decide +kernel) (by decide +kernel)) ⟨(t_of [Cond.codeWith yL_trackCell cL_trackCell 5 (some .int) [(0, 10, 13, 21), (0, 10, 17, 13), (0, 10, 21, 15)]] [(6, 214)] (by decide +kernel) _ List.mem_cons_self), List.all_eq_true.mp (by decide +kernel : [Cond.codeWith yL_trackCell cL_trackCell 5 (some .int) [(0, 10, 13, 21), (0, 10, 17, 13), (0, 10, 21, 15)]].all goodWord = true) _ List.mem_cons_self⟩) rfl rfl rfl (by decide +kernel) ⟨Nat.le_of_ble_eq_true rfl, Nat.le_of_ble_eq_true rfl⟩) rfl hl.1 rfl (lv_room (Nat.le_of_ble_eq_true rfl)) dL_law_1544 ⟨by show _ ≤ 601024; omega, by show _ ≤ 7293034; omega⟩ ?_
  intro ad2 H locs had G
  rw [← had 0 h0T] at hl
  refine lv_istore (lv' := [(6, .int (vck 1 2 3 k1)), (5, .int (nI i)), (4, .ref ae), (3, .ref aj), (2, .ref (am 0)), (1, .ref (ad2 0)), (0, .ref b)]) hx hb dL_law_1547 hl (by decide) rfl (fun ls hl => ?_)
  refine lv_aload_n hx hb dL_law_1549 rfl (lv_at hl 4 rfl) ?_
  refine lv_aload_n hx hb dL_law_1550 rfl (lv_at hl 6 rfl) ?_
  refine lv_iload hx hb dL_law_1551 (lv_at hl 1 rfl) ?_
  refine lv_iconst (v := 1) hx hb dL_law_1553 (by decide) ?_
  refine lv_iadd hx hb dL_law_1554 ?_
  refine lv_to (y := nI (i + 1)) (nI_add i 1) ?_
  refine va_sld hx hb hX0 hbl (Nat.not_le.mpr hbl) G.2.2 (i := nI (i + 1)) (vp_in_nI (n := i + 1) (N := L) (by omega) (by omega)) dL_law_1555 ?_
  refine lv_to (y := xs (i + 1)) (congrArg xs (nI_clamp (by omega))) ?_
  refine lv_aload_n hx hb dL_law_1556 rfl (lv_at hl 6 rfl) ?_
  refine lv_iload hx hb dL_law_1557 (lv_at hl 1 rfl) ?_
  refine lv_iconst (v := 2) hx hb dL_law_1559 (by decide) ?_
  refine lv_iadd hx hb dL_law_1560 ?_
  refine lv_to (y := nI (i + 2)) (nI_add i 2) ?_
  refine va_sld hx hb hX0 hbl (Nat.not_le.mpr hbl) G.2.2 (i := nI (i + 2)) (vp_in_nI (n := i + 2) (N := L) (by omega) (by omega)) dL_law_1561 ?_
  refine lv_to (y := xs (i + 2)) (congrArg xs (nI_clamp (by omega))) ?_
  obtain ⟨⟨r2, S1⟩, hf, hj⟩ := sj_trackCell Sm (xs (i + 1)) (xs (i + 2)) hJ
  have hJ1 : JJ S1 := hj
  refine y_mi (As := [.int (xs (i + 1)), .int (xs (i + 2))]) (rest := []) E G hA hX.2.2.2.2 hml (tr_trackCell l D cI cJ cZ am Sm (xs (i + 1)) (xs (i + 2)) hf) (cwV 2 hts (glM (L := [Cond.methodLink RL 332 yX12_trackCell, Cond.instanceMethod yX12_trackCell, Cond.selects RX12 yX12_trackCell yX12_trackCell, Cond.initialized RX12]) (gl_in [(10, 65), (10, 66), (10, 67), (1, 14)] (by decide +kernel) (by decide +kernel)) ⟨(t_of [Cond.code yX12_trackCell cX12_trackCell 5 (some .int)] [(10, 68)] (by decide +kernel) _ List.mem_cons_self), List.all_eq_true.mp (by decide +kernel : [Cond.code yX12_trackCell cX12_trackCell 5 (some .int)].all goodWord = true) _ List.mem_cons_self⟩) rfl rfl rfl (by decide +kernel) ⟨Nat.le_of_ble_eq_true rfl, Nat.le_of_ble_eq_true rfl⟩) rfl hl.1 rfl (lv_room (Nat.le_of_ble_eq_true rfl)) dL_law_1562 ⟨by show _ ≤ 601024; omega, by show _ ≤ 7293034; omega⟩ (fun H locs G => ?_)
  refine lv_istore (lv' := [(7, .int r2), (6, .int (vck 1 2 3 k1)), (5, .int (nI i)), (4, .ref ae), (3, .ref aj), (2, .ref (am 0)), (1, .ref (ad2 0)), (0, .ref b)]) hx hb dL_law_1565 hl (by decide) rfl (fun ls hl => ?_)
  refine lv_goto (tgt := 2439) hx hb dL_law_1567 (by decide) ?_
  have hl := lv_sub hl [2, 3, 4, 5, 6, 7] rfl
  refine W.widen (k := 19 + T1.1 + (j + 1)) (n := 38467 + sg T1 + 6 * (j + 1)) (by omega) (by omega) ?_
  exact kk ad2 (vfJ k1 f r1.toInt64) g H locs ls hg hf (had 0 h0T) hV1 hrc1 hJ1 G hl
set_option maxHeartbeats 4000000 in
set_option maxRecDepth 100000 in
theorem y_a41 {p : Program} {e : Env} {s : State} {m : MethodId} {below : List Frame} {meth : Method} {c : Code} (l : Launch) (hst : l.stackTraces = false) {b L : Nat} {xs : Nat → Int32} (hx : p.tables.exec = Jvm.exec) (hb : c.code = code) (hml : c.maxLocals = 9) (hown : s.vm.findClass RL = some m.cls) (hts : ∀ w ∈ lw_tbl, w.before #[Value.ref b] s = true) (hX0 : va_X b L xs s s.heap) (hbl : b < s.heap.size) (hX : xT (fun q => s.heap.size ≤ q) s) (hN : nC s) (hTS : sAll s.heap.size s) {D : va_G} {cI cJ cZ cMic cSrc cSt cAI cAJ cD : ClassId} (hK : va_K D vwCl (CT cI cJ cZ cMic cSrc cSt cAI cAJ ++ [(cD, .double)]) s) {Q : State → Prop} {i j : Nat} (hi : i + 6 ≤ L) (hL : L ≤ 3072) (hj : j < 512) {aj ae : Nat} {ad am : Nat → Nat} {T : AT} {Sm : MS} {f : Nat → Int64} {g : Nat → UInt64} {ls : Array Slot} {H : Heap} {locs : List Loc} (hV : IV aR0 1586 aK1 aK2 T) (hrc : RC T) (hJ : JJ Sm) (G : gL cI cJ cZ cMic cSrc cSt cAI cAJ D ad (fun q => s.heap.size ≤ q) s.heap H locs T (oJ aj cJ f :: oD ae cD g :: MW cI cJ cZ am Sm)) (hl : lv_has ls 9 [(5, .int (nI i)), (4, .ref ae), (3, .ref aj), (2, .ref (am 0)), (1, .ref (ad 0)), (0, .ref b)]) (kk : ∀ {k1 : Nat} {r1 : Int64} {T1 : AT} {r2 : Int64} {S1 : MS} (ad2 : Nat → Nat) (f1 : Nat → Int64) (g1 : Nat → UInt64) (H1 : Heap) (locs1 : List Loc) (ls1 : Array Slot), g_X11_movingPower T 0 (xs (i + 1)) (xs (i + 2)) (xs (i + 3)) = some (k1, r1, T1) → fr_movingPower Sm (xs (i + 1)) (xs (i + 2)) (xs (i + 3)) = some (r2, S1) → ad2 0 = ad 0 → IV aR0 1586 aK1 aK2 T1 → RC T1 → JJ S1 → gL cI cJ cZ cMic cSrc cSt cAI cAJ D ad2 (fun q => s.heap.size ≤ q) s.heap H1 locs1 T1 (oJ aj cJ f1 :: oD ae cD g1 :: MW cI cJ cZ am S1) → lv_has ls1 9 [(5, .int (nI i)), (4, .ref ae), (3, .ref aj), (2, .ref (am 0)), (1, .ref (ad2 0)), (0, .ref b)] → W p l e room_1 s m #[Value.ref b] below meth c H1 locs1 (19 + T1.1 + (j + 1)) (38467 + sg T1 + 6 * (j + 1)) Q (F0 m 2439 ls1 [])) : W p l e room_1 s m #[Value.ref b] below meth c H locs (19 + T.1 + j) (38467 + sg T + 6 * j) Q (F0 m 1570 ls []) := by
  have E : cE p c cL_law s m #[Value.ref b] lw_tbl D RL (CT cI cJ cZ cMic cSrc cSt cAI cAJ ++ [(cD, .double)]) := ⟨hx, hb, hts, hown, hK⟩
  have hA : ∀ q : Nat, s.heap.size ≤ q → s.heap.size ≤ q := fun _ h => h
  have h0T : 0 < T.1 := Nat.lt_of_lt_of_le (by decide) hV.1.2.2
  have h0s : T.2.1 0 = (11, 0) := hV.2.1 0 ⟨by decide, by decide +kernel, by decide +kernel⟩
  refine lv_aload_n hx hb dL_law_1570 rfl (lv_at hl 4 rfl) ?_
  refine lv_aload_n hx hb dL_law_1571 rfl (lv_at hl 5 rfl) ?_
  refine lv_iload hx hb dL_law_1572 (lv_at hl 0 rfl) ?_
  refine lv_iconst (v := 1) hx hb dL_law_1574 (by decide) ?_
  refine lv_iadd hx hb dL_law_1575 ?_
  refine lv_to (y := nI (i + 1)) (nI_add i 1) ?_
  refine va_sld hx hb hX0 hbl (Nat.not_le.mpr hbl) G.2.2 (i := nI (i + 1)) (vp_in_nI (n := i + 1) (N := L) (by omega) (by omega)) dL_law_1576 ?_
  refine lv_to (y := xs (i + 1)) (congrArg xs (nI_clamp (by omega))) ?_
  refine lv_aload_n hx hb dL_law_1577 rfl (lv_at hl 5 rfl) ?_
  refine lv_iload hx hb dL_law_1578 (lv_at hl 0 rfl) ?_
  refine lv_iconst (v := 2) hx hb dL_law_1580 (by decide) ?_
  refine lv_iadd hx hb dL_law_1581 ?_
  refine lv_to (y := nI (i + 2)) (nI_add i 2) ?_
  refine va_sld hx hb hX0 hbl (Nat.not_le.mpr hbl) G.2.2 (i := nI (i + 2)) (vp_in_nI (n := i + 2) (N := L) (by omega) (by omega)) dL_law_1582 ?_
  refine lv_to (y := xs (i + 2)) (congrArg xs (nI_clamp (by omega))) ?_
  refine lv_aload_n hx hb dL_law_1583 rfl (lv_at hl 5 rfl) ?_
  refine lv_iload hx hb dL_law_1584 (lv_at hl 0 rfl) ?_
  refine lv_iconst (v := 3) hx hb dL_law_1586 (by decide) ?_
  refine lv_iadd hx hb dL_law_1587 ?_
  refine lv_to (y := nI (i + 3)) (nI_add i 3) ?_
  refine va_sld hx hb hX0 hbl (Nat.not_le.mpr hbl) G.2.2 (i := nI (i + 3)) (vp_in_nI (n := i + 3) (N := L) (by omega) (by omega)) dL_law_1588 ?_
  refine lv_to (y := xs (i + 3)) (congrArg xs (nI_clamp (by omega))) ?_
  refine lv_aload_n hx hb dL_law_1589 rfl (lv_at hl 2 rfl) ?_
  obtain ⟨⟨k1, r1, T1⟩, hg, hc⟩ := cs_X11_movingPower T 0 (xs (i + 1)) (xs (i + 2)) (xs (i + 3)) hV (by decide +kernel)
  have hV1 : IV aR0 1586 aK1 aK2 T1 := hc.1.1
  have hg1 := s_X11_movingPower hg
  have hg2 := sg_le hg1
  have hg3 := hg1.1
  have hk := hV1.2.2.2.2.2.2
  have hrc1 := hg1.2.2 hrc
  have hr0 := a_room
  refine l_v (h0 := s.heap.size) (As := [.ref (ad 0), .int (xs (i + 1)), .int (xs (i + 2)), .int (xs (i + 3)), .ref aj]) (rest := []) E G hA hX hN (fun _ h => h) hTS hml (v_movingPower l hst D s.heap.size ad T 0 (xs (i + 1)) (xs (i + 2)) (xs (i + 3)) aj f hg hrc h0T h0s) (vx_cwSW 5 hts (glA (L := [Cond.methodLink RL 333 yL_movingPower, Cond.static yL_movingPower, Cond.initialized RL]) (gl_in [(6, 220), (6, 221), (1, 0)] (by decide +kernel) (by decide +kernel)) ⟨(t_of [Cond.codeWith yL_movingPower cL_movingPower 6 (some .int) [(0, 11, 14, 21), (0, 11, 18, 13), (0, 11, 22, 15)]] [(6, 222)] (by decide +kernel) _ List.mem_cons_self), List.all_eq_true.mp (by decide +kernel : [Cond.codeWith yL_movingPower cL_movingPower 6 (some .int) [(0, 11, 14, 21), (0, 11, 18, 13), (0, 11, 22, 15)]].all goodWord = true) _ List.mem_cons_self⟩) rfl rfl rfl (by decide +kernel) ⟨Nat.le_of_ble_eq_true rfl, Nat.le_of_ble_eq_true rfl⟩) rfl hl.1 rfl (lv_room (Nat.le_of_ble_eq_true rfl)) dL_law_1590 ⟨by show _ ≤ 601024; omega, by show _ ≤ 7293034; omega⟩ ?_
  intro ad2 H locs had G
  rw [← had 0 h0T] at hl
  refine lv_istore (lv' := [(6, .int (vck 1 2 3 k1)), (5, .int (nI i)), (4, .ref ae), (3, .ref aj), (2, .ref (am 0)), (1, .ref (ad2 0)), (0, .ref b)]) hx hb dL_law_1593 hl (by decide) rfl (fun ls hl => ?_)
  refine lv_aload_n hx hb dL_law_1595 rfl (lv_at hl 4 rfl) ?_
  refine lv_aload_n hx hb dL_law_1596 rfl (lv_at hl 6 rfl) ?_
  refine lv_iload hx hb dL_law_1597 (lv_at hl 1 rfl) ?_
  refine lv_iconst (v := 1) hx hb dL_law_1599 (by decide) ?_
  refine lv_iadd hx hb dL_law_1600 ?_
  refine lv_to (y := nI (i + 1)) (nI_add i 1) ?_
  refine va_sld hx hb hX0 hbl (Nat.not_le.mpr hbl) G.2.2 (i := nI (i + 1)) (vp_in_nI (n := i + 1) (N := L) (by omega) (by omega)) dL_law_1601 ?_
  refine lv_to (y := xs (i + 1)) (congrArg xs (nI_clamp (by omega))) ?_
  refine lv_aload_n hx hb dL_law_1602 rfl (lv_at hl 6 rfl) ?_
  refine lv_iload hx hb dL_law_1603 (lv_at hl 1 rfl) ?_
  refine lv_iconst (v := 2) hx hb dL_law_1605 (by decide) ?_
  refine lv_iadd hx hb dL_law_1606 ?_
  refine lv_to (y := nI (i + 2)) (nI_add i 2) ?_
  refine va_sld hx hb hX0 hbl (Nat.not_le.mpr hbl) G.2.2 (i := nI (i + 2)) (vp_in_nI (n := i + 2) (N := L) (by omega) (by omega)) dL_law_1607 ?_
  refine lv_to (y := xs (i + 2)) (congrArg xs (nI_clamp (by omega))) ?_
  refine lv_aload_n hx hb dL_law_1608 rfl (lv_at hl 6 rfl) ?_
  refine lv_iload hx hb dL_law_1609 (lv_at hl 1 rfl) ?_
  refine lv_iconst (v := 3) hx hb dL_law_1611 (by decide) ?_
  refine lv_iadd hx hb dL_law_1612 ?_
  refine lv_to (y := nI (i + 3)) (nI_add i 3) ?_
  refine va_sld hx hb hX0 hbl (Nat.not_le.mpr hbl) G.2.2 (i := nI (i + 3)) (vp_in_nI (n := i + 3) (N := L) (by omega) (by omega)) dL_law_1613 ?_
  refine lv_to (y := xs (i + 3)) (congrArg xs (nI_clamp (by omega))) ?_
  obtain ⟨⟨r2, S1⟩, hf, hj⟩ := sj_movingPower Sm (xs (i + 1)) (xs (i + 2)) (xs (i + 3)) hJ
  have hJ1 : JJ S1 := hj
  refine y_ml (As := [.int (xs (i + 1)), .int (xs (i + 2)), .int (xs (i + 3))]) (rest := []) E G hA hX.2.2.2.2 hml (tr_movingPower l D cI cJ cZ am Sm (xs (i + 1)) (xs (i + 2)) (xs (i + 3)) hf) (cwV 3 hts (glM (L := [Cond.methodLink RL 335 yX12_movingPower, Cond.instanceMethod yX12_movingPower, Cond.selects RX12 yX12_movingPower yX12_movingPower, Cond.initialized RX12]) (gl_in [(10, 85), (10, 86), (10, 87), (1, 14)] (by decide +kernel) (by decide +kernel)) ⟨(t_of [Cond.code yX12_movingPower cX12_movingPower 4 (some .long)] [(10, 88)] (by decide +kernel) _ List.mem_cons_self), List.all_eq_true.mp (by decide +kernel : [Cond.code yX12_movingPower cX12_movingPower 4 (some .long)].all goodWord = true) _ List.mem_cons_self⟩) rfl rfl rfl (by decide +kernel) ⟨Nat.le_of_ble_eq_true rfl, Nat.le_of_ble_eq_true rfl⟩) rfl hl.1 rfl (lv_room (Nat.le_of_ble_eq_true rfl)) dL_law_1614 ⟨by show _ ≤ 601024; omega, by show _ ≤ 7293034; omega⟩ (fun H locs G => ?_)
  refine lv_lstore (lv' := [(7, .long r2), (6, .int (vck 1 2 3 k1)), (5, .int (nI i)), (4, .ref ae), (3, .ref aj), (2, .ref (am 0)), (1, .ref (ad2 0)), (0, .ref b)]) hx hb dL_law_1617 hl (by decide) rfl (fun ls hl => ?_)
  refine lv_goto (tgt := 2439) hx hb dL_law_1619 (by decide) ?_
  have hl := lv_sub hl [2, 3, 4, 5, 6, 7] rfl
  refine W.widen (k := 19 + T1.1 + (j + 1)) (n := 38467 + sg T1 + 6 * (j + 1)) (by omega) (by omega) ?_
  exact kk ad2 (vfJ k1 f r1) g H locs ls hg hf (had 0 h0T) hV1 hrc1 hJ1 G hl
set_option maxHeartbeats 4000000 in
set_option maxRecDepth 100000 in
theorem y_a42 {p : Program} {e : Env} {s : State} {m : MethodId} {below : List Frame} {meth : Method} {c : Code} (l : Launch) (hst : l.stackTraces = false) {b L : Nat} {xs : Nat → Int32} (hx : p.tables.exec = Jvm.exec) (hb : c.code = code) (hml : c.maxLocals = 9) (hown : s.vm.findClass RL = some m.cls) (hts : ∀ w ∈ lw_tbl, w.before #[Value.ref b] s = true) (hX0 : va_X b L xs s s.heap) (hbl : b < s.heap.size) (hX : xT (fun q => s.heap.size ≤ q) s) (hN : nC s) (hTS : sAll s.heap.size s) {D : va_G} {cI cJ cZ cMic cSrc cSt cAI cAJ cD : ClassId} (hK : va_K D vwCl (CT cI cJ cZ cMic cSrc cSt cAI cAJ ++ [(cD, .double)]) s) {Q : State → Prop} {i j : Nat} (hi : i + 6 ≤ L) (hL : L ≤ 3072) (hj : j < 512) {aj ae : Nat} {ad am : Nat → Nat} {T : AT} {Sm : MS} {f : Nat → Int64} {g : Nat → UInt64} {ls : Array Slot} {H : Heap} {locs : List Loc} (hV : IV aR0 1586 aK1 aK2 T) (hrc : RC T) (hJ : JJ Sm) (G : gL cI cJ cZ cMic cSrc cSt cAI cAJ D ad (fun q => s.heap.size ≤ q) s.heap H locs T (oJ aj cJ f :: oD ae cD g :: MW cI cJ cZ am Sm)) (hl : lv_has ls 9 [(5, .int (nI i)), (4, .ref ae), (3, .ref aj), (2, .ref (am 0)), (1, .ref (ad 0)), (0, .ref b)]) (kk : ∀ {k1 : Nat} {r1 : Int32} {T1 : AT} {r2 : Int32} {S1 : MS} (ad2 : Nat → Nat) (f1 : Nat → Int64) (g1 : Nat → UInt64) (H1 : Heap) (locs1 : List Loc) (ls1 : Array Slot), g_X11_bestVelocity T 0 (xs (i + 1)) (xs (i + 2)) (xs (i + 3)) = some (k1, r1, T1) → fr_bestVelocity Sm (xs (i + 1)) (xs (i + 2)) (xs (i + 3)) = some (r2, S1) → ad2 0 = ad 0 → IV aR0 1586 aK1 aK2 T1 → RC T1 → JJ S1 → gL cI cJ cZ cMic cSrc cSt cAI cAJ D ad2 (fun q => s.heap.size ≤ q) s.heap H1 locs1 T1 (oJ aj cJ f1 :: oD ae cD g1 :: MW cI cJ cZ am S1) → lv_has ls1 9 [(5, .int (nI i)), (4, .ref ae), (3, .ref aj), (2, .ref (am 0)), (1, .ref (ad2 0)), (0, .ref b)] → W p l e room_1 s m #[Value.ref b] below meth c H1 locs1 (19 + T1.1 + (j + 1)) (38467 + sg T1 + 6 * (j + 1)) Q (F0 m 2439 ls1 [])) : W p l e room_1 s m #[Value.ref b] below meth c H locs (19 + T.1 + j) (38467 + sg T + 6 * j) Q (F0 m 1622 ls []) := by
  have E : cE p c cL_law s m #[Value.ref b] lw_tbl D RL (CT cI cJ cZ cMic cSrc cSt cAI cAJ ++ [(cD, .double)]) := ⟨hx, hb, hts, hown, hK⟩
  have hA : ∀ q : Nat, s.heap.size ≤ q → s.heap.size ≤ q := fun _ h => h
  have h0T : 0 < T.1 := Nat.lt_of_lt_of_le (by decide) hV.1.2.2
  have h0s : T.2.1 0 = (11, 0) := hV.2.1 0 ⟨by decide, by decide +kernel, by decide +kernel⟩
  refine lv_aload_n hx hb dL_law_1622 rfl (lv_at hl 4 rfl) ?_
  refine lv_aload_n hx hb dL_law_1623 rfl (lv_at hl 5 rfl) ?_
  refine lv_iload hx hb dL_law_1624 (lv_at hl 0 rfl) ?_
  refine lv_iconst (v := 1) hx hb dL_law_1626 (by decide) ?_
  refine lv_iadd hx hb dL_law_1627 ?_
  refine lv_to (y := nI (i + 1)) (nI_add i 1) ?_
  refine va_sld hx hb hX0 hbl (Nat.not_le.mpr hbl) G.2.2 (i := nI (i + 1)) (vp_in_nI (n := i + 1) (N := L) (by omega) (by omega)) dL_law_1628 ?_
  refine lv_to (y := xs (i + 1)) (congrArg xs (nI_clamp (by omega))) ?_
  refine lv_aload_n hx hb dL_law_1629 rfl (lv_at hl 5 rfl) ?_
  refine lv_iload hx hb dL_law_1630 (lv_at hl 0 rfl) ?_
  refine lv_iconst (v := 2) hx hb dL_law_1632 (by decide) ?_
  refine lv_iadd hx hb dL_law_1633 ?_
  refine lv_to (y := nI (i + 2)) (nI_add i 2) ?_
  refine va_sld hx hb hX0 hbl (Nat.not_le.mpr hbl) G.2.2 (i := nI (i + 2)) (vp_in_nI (n := i + 2) (N := L) (by omega) (by omega)) dL_law_1634 ?_
  refine lv_to (y := xs (i + 2)) (congrArg xs (nI_clamp (by omega))) ?_
  refine lv_aload_n hx hb dL_law_1635 rfl (lv_at hl 5 rfl) ?_
  refine lv_iload hx hb dL_law_1636 (lv_at hl 0 rfl) ?_
  refine lv_iconst (v := 3) hx hb dL_law_1638 (by decide) ?_
  refine lv_iadd hx hb dL_law_1639 ?_
  refine lv_to (y := nI (i + 3)) (nI_add i 3) ?_
  refine va_sld hx hb hX0 hbl (Nat.not_le.mpr hbl) G.2.2 (i := nI (i + 3)) (vp_in_nI (n := i + 3) (N := L) (by omega) (by omega)) dL_law_1640 ?_
  refine lv_to (y := xs (i + 3)) (congrArg xs (nI_clamp (by omega))) ?_
  refine lv_aload_n hx hb dL_law_1641 rfl (lv_at hl 2 rfl) ?_
  obtain ⟨⟨k1, r1, T1⟩, hg, hc⟩ := cs_X11_bestVelocity T 0 (xs (i + 1)) (xs (i + 2)) (xs (i + 3)) hV (by decide +kernel)
  have hV1 : IV aR0 1586 aK1 aK2 T1 := hc.1.1
  have hg1 := s_X11_bestVelocity hg
  have hg2 := sg_le hg1
  have hg3 := hg1.1
  have hk := hV1.2.2.2.2.2.2
  have hrc1 := hg1.2.2 hrc
  have hr0 := a_room
  refine l_v (h0 := s.heap.size) (As := [.ref (ad 0), .int (xs (i + 1)), .int (xs (i + 2)), .int (xs (i + 3)), .ref aj]) (rest := []) E G hA hX hN (fun _ h => h) hTS hml (v_bestVelocity l hst D s.heap.size ad T 0 (xs (i + 1)) (xs (i + 2)) (xs (i + 3)) aj f hg hrc h0T h0s) (vx_cwSW 5 hts (glA (L := [Cond.methodLink RL 336 yL_bestVelocity, Cond.static yL_bestVelocity, Cond.initialized RL]) (gl_in [(6, 233), (6, 234), (1, 0)] (by decide +kernel) (by decide +kernel)) ⟨(t_of [Cond.codeWith yL_bestVelocity cL_bestVelocity 6 (some .int) [(0, 12, 15, 21), (0, 12, 19, 13), (0, 12, 23, 15)]] [(6, 235)] (by decide +kernel) _ List.mem_cons_self), List.all_eq_true.mp (by decide +kernel : [Cond.codeWith yL_bestVelocity cL_bestVelocity 6 (some .int) [(0, 12, 15, 21), (0, 12, 19, 13), (0, 12, 23, 15)]].all goodWord = true) _ List.mem_cons_self⟩) rfl rfl rfl (by decide +kernel) ⟨Nat.le_of_ble_eq_true rfl, Nat.le_of_ble_eq_true rfl⟩) rfl hl.1 rfl (lv_room (Nat.le_of_ble_eq_true rfl)) dL_law_1642 ⟨by show _ ≤ 601024; omega, by show _ ≤ 7293034; omega⟩ ?_
  intro ad2 H locs had G
  rw [← had 0 h0T] at hl
  refine lv_istore (lv' := [(6, .int (vck 1 2 3 k1)), (5, .int (nI i)), (4, .ref ae), (3, .ref aj), (2, .ref (am 0)), (1, .ref (ad2 0)), (0, .ref b)]) hx hb dL_law_1645 hl (by decide) rfl (fun ls hl => ?_)
  refine lv_aload_n hx hb dL_law_1647 rfl (lv_at hl 4 rfl) ?_
  refine lv_aload_n hx hb dL_law_1648 rfl (lv_at hl 6 rfl) ?_
  refine lv_iload hx hb dL_law_1649 (lv_at hl 1 rfl) ?_
  refine lv_iconst (v := 1) hx hb dL_law_1651 (by decide) ?_
  refine lv_iadd hx hb dL_law_1652 ?_
  refine lv_to (y := nI (i + 1)) (nI_add i 1) ?_
  refine va_sld hx hb hX0 hbl (Nat.not_le.mpr hbl) G.2.2 (i := nI (i + 1)) (vp_in_nI (n := i + 1) (N := L) (by omega) (by omega)) dL_law_1653 ?_
  refine lv_to (y := xs (i + 1)) (congrArg xs (nI_clamp (by omega))) ?_
  refine lv_aload_n hx hb dL_law_1654 rfl (lv_at hl 6 rfl) ?_
  refine lv_iload hx hb dL_law_1655 (lv_at hl 1 rfl) ?_
  refine lv_iconst (v := 2) hx hb dL_law_1657 (by decide) ?_
  refine lv_iadd hx hb dL_law_1658 ?_
  refine lv_to (y := nI (i + 2)) (nI_add i 2) ?_
  refine va_sld hx hb hX0 hbl (Nat.not_le.mpr hbl) G.2.2 (i := nI (i + 2)) (vp_in_nI (n := i + 2) (N := L) (by omega) (by omega)) dL_law_1659 ?_
  refine lv_to (y := xs (i + 2)) (congrArg xs (nI_clamp (by omega))) ?_
  refine lv_aload_n hx hb dL_law_1660 rfl (lv_at hl 6 rfl) ?_
  refine lv_iload hx hb dL_law_1661 (lv_at hl 1 rfl) ?_
  refine lv_iconst (v := 3) hx hb dL_law_1663 (by decide) ?_
  refine lv_iadd hx hb dL_law_1664 ?_
  refine lv_to (y := nI (i + 3)) (nI_add i 3) ?_
  refine va_sld hx hb hX0 hbl (Nat.not_le.mpr hbl) G.2.2 (i := nI (i + 3)) (vp_in_nI (n := i + 3) (N := L) (by omega) (by omega)) dL_law_1665 ?_
  refine lv_to (y := xs (i + 3)) (congrArg xs (nI_clamp (by omega))) ?_
  obtain ⟨⟨r2, S1⟩, hf, hj⟩ := sj_bestVelocity Sm (xs (i + 1)) (xs (i + 2)) (xs (i + 3)) hJ
  have hJ1 : JJ S1 := hj
  refine y_mi (As := [.int (xs (i + 1)), .int (xs (i + 2)), .int (xs (i + 3))]) (rest := []) E G hA hX.2.2.2.2 hml (tr_bestVelocity l D cI cJ cZ am Sm (xs (i + 1)) (xs (i + 2)) (xs (i + 3)) hf) (cwV 3 hts (glM (L := [Cond.methodLink RL 338 yX12_bestVelocity, Cond.instanceMethod yX12_bestVelocity, Cond.selects RX12 yX12_bestVelocity yX12_bestVelocity, Cond.initialized RX12]) (gl_in [(10, 96), (10, 97), (10, 98), (1, 14)] (by decide +kernel) (by decide +kernel)) ⟨(t_of [Cond.code yX12_bestVelocity cX12_bestVelocity 11 (some .int)] [(10, 99)] (by decide +kernel) _ List.mem_cons_self), List.all_eq_true.mp (by decide +kernel : [Cond.code yX12_bestVelocity cX12_bestVelocity 11 (some .int)].all goodWord = true) _ List.mem_cons_self⟩) rfl rfl rfl (by decide +kernel) ⟨Nat.le_of_ble_eq_true rfl, Nat.le_of_ble_eq_true rfl⟩) rfl hl.1 rfl (lv_room (Nat.le_of_ble_eq_true rfl)) dL_law_1666 ⟨by show _ ≤ 601024; omega, by show _ ≤ 7293034; omega⟩ (fun H locs G => ?_)
  refine lv_istore (lv' := [(7, .int r2), (6, .int (vck 1 2 3 k1)), (5, .int (nI i)), (4, .ref ae), (3, .ref aj), (2, .ref (am 0)), (1, .ref (ad2 0)), (0, .ref b)]) hx hb dL_law_1669 hl (by decide) rfl (fun ls hl => ?_)
  refine lv_goto (tgt := 2439) hx hb dL_law_1671 (by decide) ?_
  have hl := lv_sub hl [2, 3, 4, 5, 6, 7] rfl
  refine W.widen (k := 19 + T1.1 + (j + 1)) (n := 38467 + sg T1 + 6 * (j + 1)) (by omega) (by omega) ?_
  exact kk ad2 (vfJ k1 f r1.toInt64) g H locs ls hg hf (had 0 h0T) hV1 hrc1 hJ1 G hl
set_option maxHeartbeats 4000000 in
set_option maxRecDepth 100000 in
theorem y_a43 {p : Program} {e : Env} {s : State} {m : MethodId} {below : List Frame} {meth : Method} {c : Code} (l : Launch) (hst : l.stackTraces = false) {b L : Nat} {xs : Nat → Int32} (hx : p.tables.exec = Jvm.exec) (hb : c.code = code) (hml : c.maxLocals = 9) (hown : s.vm.findClass RL = some m.cls) (hts : ∀ w ∈ lw_tbl, w.before #[Value.ref b] s = true) (hX0 : va_X b L xs s s.heap) (hbl : b < s.heap.size) (hX : xT (fun q => s.heap.size ≤ q) s) (hN : nC s) (hTS : sAll s.heap.size s) {D : va_G} {cI cJ cZ cMic cSrc cSt cAI cAJ cD : ClassId} (hK : va_K D vwCl (CT cI cJ cZ cMic cSrc cSt cAI cAJ ++ [(cD, .double)]) s) {Q : State → Prop} {i j : Nat} (hi : i + 6 ≤ L) (hL : L ≤ 3072) (hj : j < 512) {aj ae : Nat} {ad am : Nat → Nat} {T : AT} {Sm : MS} {f : Nat → Int64} {g : Nat → UInt64} {ls : Array Slot} {H : Heap} {locs : List Loc} (hV : IV aR0 1586 aK1 aK2 T) (hrc : RC T) (hJ : JJ Sm) (G : gL cI cJ cZ cMic cSrc cSt cAI cAJ D ad (fun q => s.heap.size ≤ q) s.heap H locs T (oJ aj cJ f :: oD ae cD g :: MW cI cJ cZ am Sm)) (hl : lv_has ls 9 [(5, .int (nI i)), (4, .ref ae), (3, .ref aj), (2, .ref (am 0)), (1, .ref (ad 0)), (0, .ref b)]) (kk : ∀ {k1 : Nat} {r1 : Int64} {T1 : AT} {r2 : Int64} {S1 : MS} (ad2 : Nat → Nat) (f1 : Nat → Int64) (g1 : Nat → UInt64) (H1 : Heap) (locs1 : List Loc) (ls1 : Array Slot), g_X11_correlation T 0 (xs (i + 1)) (xs (i + 2)) (xs (i + 3)) = some (k1, r1, T1) → fr_correlation Sm (xs (i + 1)) (xs (i + 2)) (xs (i + 3)) = some (r2, S1) → ad2 0 = ad 0 → IV aR0 1586 aK1 aK2 T1 → RC T1 → JJ S1 → gL cI cJ cZ cMic cSrc cSt cAI cAJ D ad2 (fun q => s.heap.size ≤ q) s.heap H1 locs1 T1 (oJ aj cJ f1 :: oD ae cD g1 :: MW cI cJ cZ am S1) → lv_has ls1 9 [(5, .int (nI i)), (4, .ref ae), (3, .ref aj), (2, .ref (am 0)), (1, .ref (ad2 0)), (0, .ref b)] → W p l e room_1 s m #[Value.ref b] below meth c H1 locs1 (19 + T1.1 + (j + 1)) (38467 + sg T1 + 6 * (j + 1)) Q (F0 m 2439 ls1 [])) : W p l e room_1 s m #[Value.ref b] below meth c H locs (19 + T.1 + j) (38467 + sg T + 6 * j) Q (F0 m 1674 ls []) := by
  have E : cE p c cL_law s m #[Value.ref b] lw_tbl D RL (CT cI cJ cZ cMic cSrc cSt cAI cAJ ++ [(cD, .double)]) := ⟨hx, hb, hts, hown, hK⟩
  have hA : ∀ q : Nat, s.heap.size ≤ q → s.heap.size ≤ q := fun _ h => h
  have h0T : 0 < T.1 := Nat.lt_of_lt_of_le (by decide) hV.1.2.2
  have h0s : T.2.1 0 = (11, 0) := hV.2.1 0 ⟨by decide, by decide +kernel, by decide +kernel⟩
  refine lv_aload_n hx hb dL_law_1674 rfl (lv_at hl 4 rfl) ?_
  refine lv_aload_n hx hb dL_law_1675 rfl (lv_at hl 5 rfl) ?_
  refine lv_iload hx hb dL_law_1676 (lv_at hl 0 rfl) ?_
  refine lv_iconst (v := 1) hx hb dL_law_1678 (by decide) ?_
  refine lv_iadd hx hb dL_law_1679 ?_
  refine lv_to (y := nI (i + 1)) (nI_add i 1) ?_
  refine va_sld hx hb hX0 hbl (Nat.not_le.mpr hbl) G.2.2 (i := nI (i + 1)) (vp_in_nI (n := i + 1) (N := L) (by omega) (by omega)) dL_law_1680 ?_
  refine lv_to (y := xs (i + 1)) (congrArg xs (nI_clamp (by omega))) ?_
  refine lv_aload_n hx hb dL_law_1681 rfl (lv_at hl 5 rfl) ?_
  refine lv_iload hx hb dL_law_1682 (lv_at hl 0 rfl) ?_
  refine lv_iconst (v := 2) hx hb dL_law_1684 (by decide) ?_
  refine lv_iadd hx hb dL_law_1685 ?_
  refine lv_to (y := nI (i + 2)) (nI_add i 2) ?_
  refine va_sld hx hb hX0 hbl (Nat.not_le.mpr hbl) G.2.2 (i := nI (i + 2)) (vp_in_nI (n := i + 2) (N := L) (by omega) (by omega)) dL_law_1686 ?_
  refine lv_to (y := xs (i + 2)) (congrArg xs (nI_clamp (by omega))) ?_
  refine lv_aload_n hx hb dL_law_1687 rfl (lv_at hl 5 rfl) ?_
  refine lv_iload hx hb dL_law_1688 (lv_at hl 0 rfl) ?_
  refine lv_iconst (v := 3) hx hb dL_law_1690 (by decide) ?_
  refine lv_iadd hx hb dL_law_1691 ?_
  refine lv_to (y := nI (i + 3)) (nI_add i 3) ?_
  refine va_sld hx hb hX0 hbl (Nat.not_le.mpr hbl) G.2.2 (i := nI (i + 3)) (vp_in_nI (n := i + 3) (N := L) (by omega) (by omega)) dL_law_1692 ?_
  refine lv_to (y := xs (i + 3)) (congrArg xs (nI_clamp (by omega))) ?_
  refine lv_aload_n hx hb dL_law_1693 rfl (lv_at hl 2 rfl) ?_
  obtain ⟨⟨k1, r1, T1⟩, hg, hc⟩ := cs_X11_correlation T 0 (xs (i + 1)) (xs (i + 2)) (xs (i + 3)) hV (by decide +kernel)
  have hV1 : IV aR0 1586 aK1 aK2 T1 := hc.1.1
  have hg1 := s_X11_correlation hg
  have hg2 := sg_le hg1
  have hg3 := hg1.1
  have hk := hV1.2.2.2.2.2.2
  have hrc1 := hg1.2.2 hrc
  have hr0 := a_room
  refine l_v (h0 := s.heap.size) (As := [.ref (ad 0), .int (xs (i + 1)), .int (xs (i + 2)), .int (xs (i + 3)), .ref aj]) (rest := []) E G hA hX hN (fun _ h => h) hTS hml (v_correlation l hst D s.heap.size ad T 0 (xs (i + 1)) (xs (i + 2)) (xs (i + 3)) aj f hg hrc h0T h0s) (vx_cwSW 5 hts (glA (L := [Cond.methodLink RL 339 yL_correlation, Cond.static yL_correlation, Cond.initialized RL]) (gl_in [(7, 2), (7, 3), (1, 0)] (by decide +kernel) (by decide +kernel)) ⟨(t_of [Cond.codeWith yL_correlation cL_correlation 6 (some .int) [(0, 11, 14, 21), (0, 11, 18, 13), (0, 11, 22, 15)]] [(7, 4)] (by decide +kernel) _ List.mem_cons_self), List.all_eq_true.mp (by decide +kernel : [Cond.codeWith yL_correlation cL_correlation 6 (some .int) [(0, 11, 14, 21), (0, 11, 18, 13), (0, 11, 22, 15)]].all goodWord = true) _ List.mem_cons_self⟩) rfl rfl rfl (by decide +kernel) ⟨Nat.le_of_ble_eq_true rfl, Nat.le_of_ble_eq_true rfl⟩) rfl hl.1 rfl (lv_room (Nat.le_of_ble_eq_true rfl)) dL_law_1694 ⟨by show _ ≤ 601024; omega, by show _ ≤ 7293034; omega⟩ ?_
  intro ad2 H locs had G
  rw [← had 0 h0T] at hl
  refine lv_istore (lv' := [(6, .int (vck 1 2 3 k1)), (5, .int (nI i)), (4, .ref ae), (3, .ref aj), (2, .ref (am 0)), (1, .ref (ad2 0)), (0, .ref b)]) hx hb dL_law_1697 hl (by decide) rfl (fun ls hl => ?_)
  refine lv_aload_n hx hb dL_law_1699 rfl (lv_at hl 4 rfl) ?_
  refine lv_aload_n hx hb dL_law_1700 rfl (lv_at hl 6 rfl) ?_
  refine lv_iload hx hb dL_law_1701 (lv_at hl 1 rfl) ?_
  refine lv_iconst (v := 1) hx hb dL_law_1703 (by decide) ?_
  refine lv_iadd hx hb dL_law_1704 ?_
  refine lv_to (y := nI (i + 1)) (nI_add i 1) ?_
  refine va_sld hx hb hX0 hbl (Nat.not_le.mpr hbl) G.2.2 (i := nI (i + 1)) (vp_in_nI (n := i + 1) (N := L) (by omega) (by omega)) dL_law_1705 ?_
  refine lv_to (y := xs (i + 1)) (congrArg xs (nI_clamp (by omega))) ?_
  refine lv_aload_n hx hb dL_law_1706 rfl (lv_at hl 6 rfl) ?_
  refine lv_iload hx hb dL_law_1707 (lv_at hl 1 rfl) ?_
  refine lv_iconst (v := 2) hx hb dL_law_1709 (by decide) ?_
  refine lv_iadd hx hb dL_law_1710 ?_
  refine lv_to (y := nI (i + 2)) (nI_add i 2) ?_
  refine va_sld hx hb hX0 hbl (Nat.not_le.mpr hbl) G.2.2 (i := nI (i + 2)) (vp_in_nI (n := i + 2) (N := L) (by omega) (by omega)) dL_law_1711 ?_
  refine lv_to (y := xs (i + 2)) (congrArg xs (nI_clamp (by omega))) ?_
  refine lv_aload_n hx hb dL_law_1712 rfl (lv_at hl 6 rfl) ?_
  refine lv_iload hx hb dL_law_1713 (lv_at hl 1 rfl) ?_
  refine lv_iconst (v := 3) hx hb dL_law_1715 (by decide) ?_
  refine lv_iadd hx hb dL_law_1716 ?_
  refine lv_to (y := nI (i + 3)) (nI_add i 3) ?_
  refine va_sld hx hb hX0 hbl (Nat.not_le.mpr hbl) G.2.2 (i := nI (i + 3)) (vp_in_nI (n := i + 3) (N := L) (by omega) (by omega)) dL_law_1717 ?_
  refine lv_to (y := xs (i + 3)) (congrArg xs (nI_clamp (by omega))) ?_
  obtain ⟨⟨r2, S1⟩, hf, hj⟩ := sj_correlation Sm (xs (i + 1)) (xs (i + 2)) (xs (i + 3)) hJ
  have hJ1 : JJ S1 := hj
  refine y_ml (As := [.int (xs (i + 1)), .int (xs (i + 2)), .int (xs (i + 3))]) (rest := []) E G hA hX.2.2.2.2 hml (tr_correlation l D cI cJ cZ am Sm (xs (i + 1)) (xs (i + 2)) (xs (i + 3)) hf) (cwV 3 hts (glM (L := [Cond.methodLink RL 341 yX12_correlation, Cond.instanceMethod yX12_correlation, Cond.selects RX12 yX12_correlation yX12_correlation, Cond.initialized RX12]) (gl_in [(10, 100), (10, 101), (10, 102), (1, 14)] (by decide +kernel) (by decide +kernel)) ⟨(t_of [Cond.code yX12_correlation cX12_correlation 4 (some .long)] [(10, 103)] (by decide +kernel) _ List.mem_cons_self), List.all_eq_true.mp (by decide +kernel : [Cond.code yX12_correlation cX12_correlation 4 (some .long)].all goodWord = true) _ List.mem_cons_self⟩) rfl rfl rfl (by decide +kernel) ⟨Nat.le_of_ble_eq_true rfl, Nat.le_of_ble_eq_true rfl⟩) rfl hl.1 rfl (lv_room (Nat.le_of_ble_eq_true rfl)) dL_law_1718 ⟨by show _ ≤ 601024; omega, by show _ ≤ 7293034; omega⟩ (fun H locs G => ?_)
  refine lv_lstore (lv' := [(7, .long r2), (6, .int (vck 1 2 3 k1)), (5, .int (nI i)), (4, .ref ae), (3, .ref aj), (2, .ref (am 0)), (1, .ref (ad2 0)), (0, .ref b)]) hx hb dL_law_1721 hl (by decide) rfl (fun ls hl => ?_)
  refine lv_goto (tgt := 2439) hx hb dL_law_1723 (by decide) ?_
  have hl := lv_sub hl [2, 3, 4, 5, 6, 7] rfl
  refine W.widen (k := 19 + T1.1 + (j + 1)) (n := 38467 + sg T1 + 6 * (j + 1)) (by omega) (by omega) ?_
  exact kk ad2 (vfJ k1 f r1) g H locs ls hg hf (had 0 h0T) hV1 hrc1 hJ1 G hl
set_option maxHeartbeats 4000000 in
set_option maxRecDepth 100000 in
theorem y_a44 {p : Program} {e : Env} {s : State} {m : MethodId} {below : List Frame} {meth : Method} {c : Code} (l : Launch) (hst : l.stackTraces = false) {b L : Nat} {xs : Nat → Int32} (hx : p.tables.exec = Jvm.exec) (hb : c.code = code) (hml : c.maxLocals = 9) (hown : s.vm.findClass RL = some m.cls) (hts : ∀ w ∈ lw_tbl, w.before #[Value.ref b] s = true) (hX0 : va_X b L xs s s.heap) (hbl : b < s.heap.size) (hX : xT (fun q => s.heap.size ≤ q) s) (hN : nC s) (hTS : sAll s.heap.size s) {D : va_G} {cI cJ cZ cMic cSrc cSt cAI cAJ cD : ClassId} (hK : va_K D vwCl (CT cI cJ cZ cMic cSrc cSt cAI cAJ ++ [(cD, .double)]) s) {Q : State → Prop} {i j : Nat} (hi : i + 6 ≤ L) (hL : L ≤ 3072) (hj : j < 512) {aj ae : Nat} {ad am : Nat → Nat} {T : AT} {Sm : MS} {f : Nat → Int64} {g : Nat → UInt64} {ls : Array Slot} {H : Heap} {locs : List Loc} (hV : IV aR0 1586 aK1 aK2 T) (hrc : RC T) (hJ : JJ Sm) (G : gL cI cJ cZ cMic cSrc cSt cAI cAJ D ad (fun q => s.heap.size ≤ q) s.heap H locs T (oJ aj cJ f :: oD ae cD g :: MW cI cJ cZ am Sm)) (hl : lv_has ls 9 [(5, .int (nI i)), (4, .ref ae), (3, .ref aj), (2, .ref (am 0)), (1, .ref (ad 0)), (0, .ref b)]) (kk : ∀ {k1 : Nat} {r1 : Int32} {T1 : AT} {r2 : Int32} {S1 : MS} (ad2 : Nat → Nat) (f1 : Nat → Int64) (g1 : Nat → UInt64) (H1 : Heap) (locs1 : List Loc) (ls1 : Array Slot), g_X11_bestLag T 0 (xs (i + 1)) (xs (i + 2)) (xs (i + 3)) = some (k1, r1, T1) → fr_bestLag Sm (xs (i + 1)) (xs (i + 2)) (xs (i + 3)) = some (r2, S1) → ad2 0 = ad 0 → IV aR0 1586 aK1 aK2 T1 → RC T1 → JJ S1 → gL cI cJ cZ cMic cSrc cSt cAI cAJ D ad2 (fun q => s.heap.size ≤ q) s.heap H1 locs1 T1 (oJ aj cJ f1 :: oD ae cD g1 :: MW cI cJ cZ am S1) → lv_has ls1 9 [(5, .int (nI i)), (4, .ref ae), (3, .ref aj), (2, .ref (am 0)), (1, .ref (ad2 0)), (0, .ref b)] → W p l e room_1 s m #[Value.ref b] below meth c H1 locs1 (19 + T1.1 + (j + 1)) (38467 + sg T1 + 6 * (j + 1)) Q (F0 m 2439 ls1 [])) : W p l e room_1 s m #[Value.ref b] below meth c H locs (19 + T.1 + j) (38467 + sg T + 6 * j) Q (F0 m 1726 ls []) := by
  have E : cE p c cL_law s m #[Value.ref b] lw_tbl D RL (CT cI cJ cZ cMic cSrc cSt cAI cAJ ++ [(cD, .double)]) := ⟨hx, hb, hts, hown, hK⟩
  have hA : ∀ q : Nat, s.heap.size ≤ q → s.heap.size ≤ q := fun _ h => h
  have h0T : 0 < T.1 := Nat.lt_of_lt_of_le (by decide) hV.1.2.2
  have h0s : T.2.1 0 = (11, 0) := hV.2.1 0 ⟨by decide, by decide +kernel, by decide +kernel⟩
  refine lv_aload_n hx hb dL_law_1726 rfl (lv_at hl 4 rfl) ?_
  refine lv_aload_n hx hb dL_law_1727 rfl (lv_at hl 5 rfl) ?_
  refine lv_iload hx hb dL_law_1728 (lv_at hl 0 rfl) ?_
  refine lv_iconst (v := 1) hx hb dL_law_1730 (by decide) ?_
  refine lv_iadd hx hb dL_law_1731 ?_
  refine lv_to (y := nI (i + 1)) (nI_add i 1) ?_
  refine va_sld hx hb hX0 hbl (Nat.not_le.mpr hbl) G.2.2 (i := nI (i + 1)) (vp_in_nI (n := i + 1) (N := L) (by omega) (by omega)) dL_law_1732 ?_
  refine lv_to (y := xs (i + 1)) (congrArg xs (nI_clamp (by omega))) ?_
  refine lv_aload_n hx hb dL_law_1733 rfl (lv_at hl 5 rfl) ?_
  refine lv_iload hx hb dL_law_1734 (lv_at hl 0 rfl) ?_
  refine lv_iconst (v := 2) hx hb dL_law_1736 (by decide) ?_
  refine lv_iadd hx hb dL_law_1737 ?_
  refine lv_to (y := nI (i + 2)) (nI_add i 2) ?_
  refine va_sld hx hb hX0 hbl (Nat.not_le.mpr hbl) G.2.2 (i := nI (i + 2)) (vp_in_nI (n := i + 2) (N := L) (by omega) (by omega)) dL_law_1738 ?_
  refine lv_to (y := xs (i + 2)) (congrArg xs (nI_clamp (by omega))) ?_
  refine lv_aload_n hx hb dL_law_1739 rfl (lv_at hl 5 rfl) ?_
  refine lv_iload hx hb dL_law_1740 (lv_at hl 0 rfl) ?_
  refine lv_iconst (v := 3) hx hb dL_law_1742 (by decide) ?_
  refine lv_iadd hx hb dL_law_1743 ?_
  refine lv_to (y := nI (i + 3)) (nI_add i 3) ?_
  refine va_sld hx hb hX0 hbl (Nat.not_le.mpr hbl) G.2.2 (i := nI (i + 3)) (vp_in_nI (n := i + 3) (N := L) (by omega) (by omega)) dL_law_1744 ?_
  refine lv_to (y := xs (i + 3)) (congrArg xs (nI_clamp (by omega))) ?_
  refine lv_aload_n hx hb dL_law_1745 rfl (lv_at hl 2 rfl) ?_
  obtain ⟨⟨k1, r1, T1⟩, hg, hc⟩ := cs_X11_bestLag T 0 (xs (i + 1)) (xs (i + 2)) (xs (i + 3)) hV (by decide +kernel)
  have hV1 : IV aR0 1586 aK1 aK2 T1 := hc.1.1
  have hg1 := s_X11_bestLag hg
  have hg2 := sg_le hg1
  have hg3 := hg1.1
  have hk := hV1.2.2.2.2.2.2
  have hrc1 := hg1.2.2 hrc
  have hr0 := a_room
  refine l_v (h0 := s.heap.size) (As := [.ref (ad 0), .int (xs (i + 1)), .int (xs (i + 2)), .int (xs (i + 3)), .ref aj]) (rest := []) E G hA hX hN (fun _ h => h) hTS hml (v_bestLag l hst D s.heap.size ad T 0 (xs (i + 1)) (xs (i + 2)) (xs (i + 3)) aj f hg hrc h0T h0s) (vx_cwSW 5 hts (glA (L := [Cond.methodLink RL 342 yL_bestLag, Cond.static yL_bestLag, Cond.initialized RL]) (gl_in [(7, 13), (7, 14), (1, 0)] (by decide +kernel) (by decide +kernel)) ⟨(t_of [Cond.codeWith yL_bestLag cL_bestLag 6 (some .int) [(0, 12, 15, 21), (0, 12, 19, 13), (0, 12, 23, 15)]] [(7, 15)] (by decide +kernel) _ List.mem_cons_self), List.all_eq_true.mp (by decide +kernel : [Cond.codeWith yL_bestLag cL_bestLag 6 (some .int) [(0, 12, 15, 21), (0, 12, 19, 13), (0, 12, 23, 15)]].all goodWord = true) _ List.mem_cons_self⟩) rfl rfl rfl (by decide +kernel) ⟨Nat.le_of_ble_eq_true rfl, Nat.le_of_ble_eq_true rfl⟩) rfl hl.1 rfl (lv_room (Nat.le_of_ble_eq_true rfl)) dL_law_1746 ⟨by show _ ≤ 601024; omega, by show _ ≤ 7293034; omega⟩ ?_
  intro ad2 H locs had G
  rw [← had 0 h0T] at hl
  refine lv_istore (lv' := [(6, .int (vck 1 2 3 k1)), (5, .int (nI i)), (4, .ref ae), (3, .ref aj), (2, .ref (am 0)), (1, .ref (ad2 0)), (0, .ref b)]) hx hb dL_law_1749 hl (by decide) rfl (fun ls hl => ?_)
  refine lv_aload_n hx hb dL_law_1751 rfl (lv_at hl 4 rfl) ?_
  refine lv_aload_n hx hb dL_law_1752 rfl (lv_at hl 6 rfl) ?_
  refine lv_iload hx hb dL_law_1753 (lv_at hl 1 rfl) ?_
  refine lv_iconst (v := 1) hx hb dL_law_1755 (by decide) ?_
  refine lv_iadd hx hb dL_law_1756 ?_
  refine lv_to (y := nI (i + 1)) (nI_add i 1) ?_
  refine va_sld hx hb hX0 hbl (Nat.not_le.mpr hbl) G.2.2 (i := nI (i + 1)) (vp_in_nI (n := i + 1) (N := L) (by omega) (by omega)) dL_law_1757 ?_
  refine lv_to (y := xs (i + 1)) (congrArg xs (nI_clamp (by omega))) ?_
  refine lv_aload_n hx hb dL_law_1758 rfl (lv_at hl 6 rfl) ?_
  refine lv_iload hx hb dL_law_1759 (lv_at hl 1 rfl) ?_
  refine lv_iconst (v := 2) hx hb dL_law_1761 (by decide) ?_
  refine lv_iadd hx hb dL_law_1762 ?_
  refine lv_to (y := nI (i + 2)) (nI_add i 2) ?_
  refine va_sld hx hb hX0 hbl (Nat.not_le.mpr hbl) G.2.2 (i := nI (i + 2)) (vp_in_nI (n := i + 2) (N := L) (by omega) (by omega)) dL_law_1763 ?_
  refine lv_to (y := xs (i + 2)) (congrArg xs (nI_clamp (by omega))) ?_
  refine lv_aload_n hx hb dL_law_1764 rfl (lv_at hl 6 rfl) ?_
  refine lv_iload hx hb dL_law_1765 (lv_at hl 1 rfl) ?_
  refine lv_iconst (v := 3) hx hb dL_law_1767 (by decide) ?_
  refine lv_iadd hx hb dL_law_1768 ?_
  refine lv_to (y := nI (i + 3)) (nI_add i 3) ?_
  refine va_sld hx hb hX0 hbl (Nat.not_le.mpr hbl) G.2.2 (i := nI (i + 3)) (vp_in_nI (n := i + 3) (N := L) (by omega) (by omega)) dL_law_1769 ?_
  refine lv_to (y := xs (i + 3)) (congrArg xs (nI_clamp (by omega))) ?_
  obtain ⟨⟨r2, S1⟩, hf, hj⟩ := sj_bestLag Sm (xs (i + 1)) (xs (i + 2)) (xs (i + 3)) hJ
  have hJ1 : JJ S1 := hj
  refine y_mi (As := [.int (xs (i + 1)), .int (xs (i + 2)), .int (xs (i + 3))]) (rest := []) E G hA hX.2.2.2.2 hml (tr_bestLag l D cI cJ cZ am Sm (xs (i + 1)) (xs (i + 2)) (xs (i + 3)) hf) (cwV 3 hts (glM (L := [Cond.methodLink RL 344 yX12_bestLag, Cond.instanceMethod yX12_bestLag, Cond.selects RX12 yX12_bestLag yX12_bestLag, Cond.initialized RX12]) (gl_in [(10, 108), (10, 109), (10, 110), (1, 14)] (by decide +kernel) (by decide +kernel)) ⟨(t_of [Cond.code yX12_bestLag cX12_bestLag 6 (some .int)] [(10, 111)] (by decide +kernel) _ List.mem_cons_self), List.all_eq_true.mp (by decide +kernel : [Cond.code yX12_bestLag cX12_bestLag 6 (some .int)].all goodWord = true) _ List.mem_cons_self⟩) rfl rfl rfl (by decide +kernel) ⟨Nat.le_of_ble_eq_true rfl, Nat.le_of_ble_eq_true rfl⟩) rfl hl.1 rfl (lv_room (Nat.le_of_ble_eq_true rfl)) dL_law_1770 ⟨by show _ ≤ 601024; omega, by show _ ≤ 7293034; omega⟩ (fun H locs G => ?_)
  refine lv_istore (lv' := [(7, .int r2), (6, .int (vck 1 2 3 k1)), (5, .int (nI i)), (4, .ref ae), (3, .ref aj), (2, .ref (am 0)), (1, .ref (ad2 0)), (0, .ref b)]) hx hb dL_law_1773 hl (by decide) rfl (fun ls hl => ?_)
  refine lv_goto (tgt := 2439) hx hb dL_law_1775 (by decide) ?_
  have hl := lv_sub hl [2, 3, 4, 5, 6, 7] rfl
  refine W.widen (k := 19 + T1.1 + (j + 1)) (n := 38467 + sg T1 + 6 * (j + 1)) (by omega) (by omega) ?_
  exact kk ad2 (vfJ k1 f r1.toInt64) g H locs ls hg hf (had 0 h0T) hV1 hrc1 hJ1 G hl
set_option maxHeartbeats 4000000 in
set_option maxRecDepth 100000 in
theorem y_a45 {p : Program} {e : Env} {s : State} {m : MethodId} {below : List Frame} {meth : Method} {c : Code} (l : Launch) (hst : l.stackTraces = false) {b L : Nat} {xs : Nat → Int32} (hx : p.tables.exec = Jvm.exec) (hb : c.code = code) (hml : c.maxLocals = 9) (hown : s.vm.findClass RL = some m.cls) (hts : ∀ w ∈ lw_tbl, w.before #[Value.ref b] s = true) (hX0 : va_X b L xs s s.heap) (hbl : b < s.heap.size) (hX : xT (fun q => s.heap.size ≤ q) s) (hN : nC s) (hTS : sAll s.heap.size s) {D : va_G} {cI cJ cZ cMic cSrc cSt cAI cAJ cD : ClassId} (hK : va_K D vwCl (CT cI cJ cZ cMic cSrc cSt cAI cAJ ++ [(cD, .double)]) s) {Q : State → Prop} {i j : Nat} (hi : i + 6 ≤ L) (hL : L ≤ 3072) (hj : j < 512) {aj ae : Nat} {ad am : Nat → Nat} {T : AT} {Sm : MS} {f : Nat → Int64} {g : Nat → UInt64} {ls : Array Slot} {H : Heap} {locs : List Loc} (hV : IV aR0 1586 aK1 aK2 T) (hrc : RC T) (hJ : JJ Sm) (G : gL cI cJ cZ cMic cSrc cSt cAI cAJ D ad (fun q => s.heap.size ≤ q) s.heap H locs T (oJ aj cJ f :: oD ae cD g :: MW cI cJ cZ am Sm)) (hl : lv_has ls 9 [(5, .int (nI i)), (4, .ref ae), (3, .ref aj), (2, .ref (am 0)), (1, .ref (ad 0)), (0, .ref b)]) (kk : ∀ {k1 : Nat} {r1 : Int64} {T1 : AT} {r2 : Int64} {S1 : MS} (ad2 : Nat → Nat) (f1 : Nat → Int64) (g1 : Nat → UInt64) (H1 : Heap) (locs1 : List Loc) (ls1 : Array Slot), g_X11_level T 0 (xs (i + 1)) = some (k1, r1, T1) → fr_level Sm (xs (i + 1)) = some (r2, S1) → ad2 0 = ad 0 → IV aR0 1586 aK1 aK2 T1 → RC T1 → JJ S1 → gL cI cJ cZ cMic cSrc cSt cAI cAJ D ad2 (fun q => s.heap.size ≤ q) s.heap H1 locs1 T1 (oJ aj cJ f1 :: oD ae cD g1 :: MW cI cJ cZ am S1) → lv_has ls1 9 [(5, .int (nI i)), (4, .ref ae), (3, .ref aj), (2, .ref (am 0)), (1, .ref (ad2 0)), (0, .ref b)] → W p l e room_1 s m #[Value.ref b] below meth c H1 locs1 (19 + T1.1 + (j + 1)) (38467 + sg T1 + 6 * (j + 1)) Q (F0 m 2439 ls1 [])) : W p l e room_1 s m #[Value.ref b] below meth c H locs (19 + T.1 + j) (38467 + sg T + 6 * j) Q (F0 m 1778 ls []) := by
  have E : cE p c cL_law s m #[Value.ref b] lw_tbl D RL (CT cI cJ cZ cMic cSrc cSt cAI cAJ ++ [(cD, .double)]) := ⟨hx, hb, hts, hown, hK⟩
  have hA : ∀ q : Nat, s.heap.size ≤ q → s.heap.size ≤ q := fun _ h => h
  have h0T : 0 < T.1 := Nat.lt_of_lt_of_le (by decide) hV.1.2.2
  have h0s : T.2.1 0 = (11, 0) := hV.2.1 0 ⟨by decide, by decide +kernel, by decide +kernel⟩
  refine lv_aload_n hx hb dL_law_1778 rfl (lv_at hl 4 rfl) ?_
  refine lv_aload_n hx hb dL_law_1779 rfl (lv_at hl 5 rfl) ?_
  refine lv_iload hx hb dL_law_1780 (lv_at hl 0 rfl) ?_
  refine lv_iconst (v := 1) hx hb dL_law_1782 (by decide) ?_
  refine lv_iadd hx hb dL_law_1783 ?_
  refine lv_to (y := nI (i + 1)) (nI_add i 1) ?_
  refine va_sld hx hb hX0 hbl (Nat.not_le.mpr hbl) G.2.2 (i := nI (i + 1)) (vp_in_nI (n := i + 1) (N := L) (by omega) (by omega)) dL_law_1784 ?_
  refine lv_to (y := xs (i + 1)) (congrArg xs (nI_clamp (by omega))) ?_
  refine lv_aload_n hx hb dL_law_1785 rfl (lv_at hl 2 rfl) ?_
  obtain ⟨⟨k1, r1, T1⟩, hg, hc⟩ := cs_X11_level T 0 (xs (i + 1)) hV (by decide +kernel)
  have hV1 : IV aR0 1586 aK1 aK2 T1 := hc.1.1
  have hg1 := s_X11_level hg
  have hg2 := sg_le hg1
  have hg3 := hg1.1
  have hk := hV1.2.2.2.2.2.2
  have hrc1 := hg1.2.2 hrc
  have hr0 := a_room
  refine l_v (h0 := s.heap.size) (As := [.ref (ad 0), .int (xs (i + 1)), .ref aj]) (rest := []) E G hA hX hN (fun _ h => h) hTS hml (v_level l hst D s.heap.size ad T 0 (xs (i + 1)) aj f hg hrc h0T h0s) (vx_cwSW 3 hts (glA (L := [Cond.methodLink RL 345 yL_level, Cond.static yL_level, Cond.initialized RL]) (gl_in [(7, 20), (7, 21), (1, 0)] (by decide +kernel) (by decide +kernel)) ⟨(t_of [Cond.codeWith yL_level cL_level 4 (some .int) [(0, 8, 11, 21), (0, 8, 14, 13)]] [(7, 22)] (by decide +kernel) _ List.mem_cons_self), List.all_eq_true.mp (by decide +kernel : [Cond.codeWith yL_level cL_level 4 (some .int) [(0, 8, 11, 21), (0, 8, 14, 13)]].all goodWord = true) _ List.mem_cons_self⟩) rfl rfl rfl (by decide +kernel) ⟨Nat.le_of_ble_eq_true rfl, Nat.le_of_ble_eq_true rfl⟩) rfl hl.1 rfl (lv_room (Nat.le_of_ble_eq_true rfl)) dL_law_1786 ⟨by show _ ≤ 601024; omega, by show _ ≤ 7293034; omega⟩ ?_
  intro ad2 H locs had G
  rw [← had 0 h0T] at hl
  refine lv_istore (lv' := [(6, .int (vck 1 2 0 k1)), (5, .int (nI i)), (4, .ref ae), (3, .ref aj), (2, .ref (am 0)), (1, .ref (ad2 0)), (0, .ref b)]) hx hb dL_law_1789 hl (by decide) rfl (fun ls hl => ?_)
  refine lv_aload_n hx hb dL_law_1791 rfl (lv_at hl 4 rfl) ?_
  refine lv_aload_n hx hb dL_law_1792 rfl (lv_at hl 6 rfl) ?_
  refine lv_iload hx hb dL_law_1793 (lv_at hl 1 rfl) ?_
  refine lv_iconst (v := 1) hx hb dL_law_1795 (by decide) ?_
  refine lv_iadd hx hb dL_law_1796 ?_
  refine lv_to (y := nI (i + 1)) (nI_add i 1) ?_
  refine va_sld hx hb hX0 hbl (Nat.not_le.mpr hbl) G.2.2 (i := nI (i + 1)) (vp_in_nI (n := i + 1) (N := L) (by omega) (by omega)) dL_law_1797 ?_
  refine lv_to (y := xs (i + 1)) (congrArg xs (nI_clamp (by omega))) ?_
  obtain ⟨⟨r2, S1⟩, hf, hj⟩ := sj_level Sm (xs (i + 1)) hJ
  have hJ1 : JJ S1 := hj
  refine y_ml (As := [.int (xs (i + 1))]) (rest := []) E G hA hX.2.2.2.2 hml (tr_level l D cI cJ cZ am Sm (xs (i + 1)) hf) (cwV 1 hts (glM (L := [Cond.methodLink RL 347 yX12_level, Cond.instanceMethod yX12_level, Cond.selects RX12 yX12_level yX12_level, Cond.initialized RX12]) (gl_in [(10, 112), (10, 113), (10, 114), (1, 14)] (by decide +kernel) (by decide +kernel)) ⟨(t_of [Cond.code yX12_level cX12_level 2 (some .long)] [(10, 115)] (by decide +kernel) _ List.mem_cons_self), List.all_eq_true.mp (by decide +kernel : [Cond.code yX12_level cX12_level 2 (some .long)].all goodWord = true) _ List.mem_cons_self⟩) rfl rfl rfl (by decide +kernel) ⟨Nat.le_of_ble_eq_true rfl, Nat.le_of_ble_eq_true rfl⟩) rfl hl.1 rfl (lv_room (Nat.le_of_ble_eq_true rfl)) dL_law_1798 ⟨by show _ ≤ 601024; omega, by show _ ≤ 7293034; omega⟩ (fun H locs G => ?_)
  refine lv_lstore (lv' := [(7, .long r2), (6, .int (vck 1 2 0 k1)), (5, .int (nI i)), (4, .ref ae), (3, .ref aj), (2, .ref (am 0)), (1, .ref (ad2 0)), (0, .ref b)]) hx hb dL_law_1801 hl (by decide) rfl (fun ls hl => ?_)
  refine lv_goto (tgt := 2439) hx hb dL_law_1803 (by decide) ?_
  have hl := lv_sub hl [2, 3, 4, 5, 6, 7] rfl
  refine W.widen (k := 19 + T1.1 + (j + 1)) (n := 38467 + sg T1 + 6 * (j + 1)) (by omega) (by omega) ?_
  exact kk ad2 (vfJ k1 f r1) g H locs ls hg hf (had 0 h0T) hV1 hrc1 hJ1 G hl
set_option maxHeartbeats 4000000 in
set_option maxRecDepth 100000 in
theorem y_a46 {p : Program} {e : Env} {s : State} {m : MethodId} {below : List Frame} {meth : Method} {c : Code} (l : Launch) (hst : l.stackTraces = false) {b L : Nat} {xs : Nat → Int32} (hx : p.tables.exec = Jvm.exec) (hb : c.code = code) (hml : c.maxLocals = 9) (hown : s.vm.findClass RL = some m.cls) (hts : ∀ w ∈ lw_tbl, w.before #[Value.ref b] s = true) (hX0 : va_X b L xs s s.heap) (hbl : b < s.heap.size) (hX : xT (fun q => s.heap.size ≤ q) s) (hN : nC s) (hTS : sAll s.heap.size s) {D : va_G} {cI cJ cZ cMic cSrc cSt cAI cAJ cD : ClassId} (hK : va_K D vwCl (CT cI cJ cZ cMic cSrc cSt cAI cAJ ++ [(cD, .double)]) s) {Q : State → Prop} {i j : Nat} (hi : i + 6 ≤ L) (hL : L ≤ 3072) (hj : j < 512) {aj ae : Nat} {ad am : Nat → Nat} {T : AT} {Sm : MS} {f : Nat → Int64} {g : Nat → UInt64} {ls : Array Slot} {H : Heap} {locs : List Loc} (hV : IV aR0 1586 aK1 aK2 T) (hrc : RC T) (hJ : JJ Sm) (G : gL cI cJ cZ cMic cSrc cSt cAI cAJ D ad (fun q => s.heap.size ≤ q) s.heap H locs T (oJ aj cJ f :: oD ae cD g :: MW cI cJ cZ am Sm)) (hl : lv_has ls 9 [(5, .int (nI i)), (4, .ref ae), (3, .ref aj), (2, .ref (am 0)), (1, .ref (ad 0)), (0, .ref b)]) (kk : ∀ {k1 : Nat} {r1 : Int32} {T1 : AT} {r2 : Int32} {S1 : MS} (ad2 : Nat → Nat) (f1 : Nat → Int64) (g1 : Nat → UInt64) (H1 : Heap) (locs1 : List Loc) (ls1 : Array Slot), g_X11_loudest T 0 (xs (i + 1)) = some (k1, r1, T1) → fr_loudest Sm (xs (i + 1)) = some (r2, S1) → ad2 0 = ad 0 → IV aR0 1586 aK1 aK2 T1 → RC T1 → JJ S1 → gL cI cJ cZ cMic cSrc cSt cAI cAJ D ad2 (fun q => s.heap.size ≤ q) s.heap H1 locs1 T1 (oJ aj cJ f1 :: oD ae cD g1 :: MW cI cJ cZ am S1) → lv_has ls1 9 [(5, .int (nI i)), (4, .ref ae), (3, .ref aj), (2, .ref (am 0)), (1, .ref (ad2 0)), (0, .ref b)] → W p l e room_1 s m #[Value.ref b] below meth c H1 locs1 (19 + T1.1 + (j + 1)) (38467 + sg T1 + 6 * (j + 1)) Q (F0 m 2439 ls1 [])) : W p l e room_1 s m #[Value.ref b] below meth c H locs (19 + T.1 + j) (38467 + sg T + 6 * j) Q (F0 m 1806 ls []) := by
  have E : cE p c cL_law s m #[Value.ref b] lw_tbl D RL (CT cI cJ cZ cMic cSrc cSt cAI cAJ ++ [(cD, .double)]) := ⟨hx, hb, hts, hown, hK⟩
  have hA : ∀ q : Nat, s.heap.size ≤ q → s.heap.size ≤ q := fun _ h => h
  have h0T : 0 < T.1 := Nat.lt_of_lt_of_le (by decide) hV.1.2.2
  have h0s : T.2.1 0 = (11, 0) := hV.2.1 0 ⟨by decide, by decide +kernel, by decide +kernel⟩
  refine lv_aload_n hx hb dL_law_1806 rfl (lv_at hl 4 rfl) ?_
  refine lv_aload_n hx hb dL_law_1807 rfl (lv_at hl 5 rfl) ?_
  refine lv_iload hx hb dL_law_1808 (lv_at hl 0 rfl) ?_
  refine lv_iconst (v := 1) hx hb dL_law_1810 (by decide) ?_
  refine lv_iadd hx hb dL_law_1811 ?_
  refine lv_to (y := nI (i + 1)) (nI_add i 1) ?_
  refine va_sld hx hb hX0 hbl (Nat.not_le.mpr hbl) G.2.2 (i := nI (i + 1)) (vp_in_nI (n := i + 1) (N := L) (by omega) (by omega)) dL_law_1812 ?_
  refine lv_to (y := xs (i + 1)) (congrArg xs (nI_clamp (by omega))) ?_
  refine lv_aload_n hx hb dL_law_1813 rfl (lv_at hl 2 rfl) ?_
  obtain ⟨⟨k1, r1, T1⟩, hg, hc⟩ := cs_X11_loudest T 0 (xs (i + 1)) hV (by decide +kernel)
  have hV1 : IV aR0 1586 aK1 aK2 T1 := hc.1.1
  have hg1 := s_X11_loudest hg
  have hg2 := sg_le hg1
  have hg3 := hg1.1
  have hk := hV1.2.2.2.2.2.2
  have hrc1 := hg1.2.2 hrc
  have hr0 := a_room
  refine l_v (h0 := s.heap.size) (As := [.ref (ad 0), .int (xs (i + 1)), .ref aj]) (rest := []) E G hA hX hN (fun _ h => h) hTS hml (v_loudest l hst D s.heap.size ad T 0 (xs (i + 1)) aj f hg hrc h0T h0s) (vx_cwSW 3 hts (glA (L := [Cond.methodLink RL 348 yL_loudest, Cond.static yL_loudest, Cond.initialized RL]) (gl_in [(7, 31), (7, 32), (1, 0)] (by decide +kernel) (by decide +kernel)) ⟨(t_of [Cond.codeWith yL_loudest cL_loudest 4 (some .int) [(0, 9, 12, 21), (0, 9, 15, 13)]] [(7, 33)] (by decide +kernel) _ List.mem_cons_self), List.all_eq_true.mp (by decide +kernel : [Cond.codeWith yL_loudest cL_loudest 4 (some .int) [(0, 9, 12, 21), (0, 9, 15, 13)]].all goodWord = true) _ List.mem_cons_self⟩) rfl rfl rfl (by decide +kernel) ⟨Nat.le_of_ble_eq_true rfl, Nat.le_of_ble_eq_true rfl⟩) rfl hl.1 rfl (lv_room (Nat.le_of_ble_eq_true rfl)) dL_law_1814 ⟨by show _ ≤ 601024; omega, by show _ ≤ 7293034; omega⟩ ?_
  intro ad2 H locs had G
  rw [← had 0 h0T] at hl
  refine lv_istore (lv' := [(6, .int (vck 1 2 0 k1)), (5, .int (nI i)), (4, .ref ae), (3, .ref aj), (2, .ref (am 0)), (1, .ref (ad2 0)), (0, .ref b)]) hx hb dL_law_1817 hl (by decide) rfl (fun ls hl => ?_)
  refine lv_aload_n hx hb dL_law_1819 rfl (lv_at hl 4 rfl) ?_
  refine lv_aload_n hx hb dL_law_1820 rfl (lv_at hl 6 rfl) ?_
  refine lv_iload hx hb dL_law_1821 (lv_at hl 1 rfl) ?_
  refine lv_iconst (v := 1) hx hb dL_law_1823 (by decide) ?_
  refine lv_iadd hx hb dL_law_1824 ?_
  refine lv_to (y := nI (i + 1)) (nI_add i 1) ?_
  refine va_sld hx hb hX0 hbl (Nat.not_le.mpr hbl) G.2.2 (i := nI (i + 1)) (vp_in_nI (n := i + 1) (N := L) (by omega) (by omega)) dL_law_1825 ?_
  refine lv_to (y := xs (i + 1)) (congrArg xs (nI_clamp (by omega))) ?_
  obtain ⟨⟨r2, S1⟩, hf, hj⟩ := sj_loudest Sm (xs (i + 1)) hJ
  have hJ1 : JJ S1 := hj
  refine y_mi (As := [.int (xs (i + 1))]) (rest := []) E G hA hX.2.2.2.2 hml (tr_loudest l D cI cJ cZ am Sm (xs (i + 1)) hf) (cwV 1 hts (glM (L := [Cond.methodLink RL 350 yX12_loudest, Cond.instanceMethod yX12_loudest, Cond.selects RX12 yX12_loudest yX12_loudest, Cond.initialized RX12]) (gl_in [(10, 120), (10, 121), (10, 122), (1, 14)] (by decide +kernel) (by decide +kernel)) ⟨(t_of [Cond.code yX12_loudest cX12_loudest 5 (some .int)] [(10, 123)] (by decide +kernel) _ List.mem_cons_self), List.all_eq_true.mp (by decide +kernel : [Cond.code yX12_loudest cX12_loudest 5 (some .int)].all goodWord = true) _ List.mem_cons_self⟩) rfl rfl rfl (by decide +kernel) ⟨Nat.le_of_ble_eq_true rfl, Nat.le_of_ble_eq_true rfl⟩) rfl hl.1 rfl (lv_room (Nat.le_of_ble_eq_true rfl)) dL_law_1826 ⟨by show _ ≤ 601024; omega, by show _ ≤ 7293034; omega⟩ (fun H locs G => ?_)
  refine lv_istore (lv' := [(7, .int r2), (6, .int (vck 1 2 0 k1)), (5, .int (nI i)), (4, .ref ae), (3, .ref aj), (2, .ref (am 0)), (1, .ref (ad2 0)), (0, .ref b)]) hx hb dL_law_1829 hl (by decide) rfl (fun ls hl => ?_)
  refine lv_goto (tgt := 2439) hx hb dL_law_1831 (by decide) ?_
  have hl := lv_sub hl [2, 3, 4, 5, 6, 7] rfl
  refine W.widen (k := 19 + T1.1 + (j + 1)) (n := 38467 + sg T1 + 6 * (j + 1)) (by omega) (by omega) ?_
  exact kk ad2 (vfJ k1 f r1.toInt64) g H locs ls hg hf (had 0 h0T) hV1 hrc1 hJ1 G hl
set_option maxHeartbeats 4000000 in
set_option maxRecDepth 100000 in
theorem y_a47 {p : Program} {e : Env} {s : State} {m : MethodId} {below : List Frame} {meth : Method} {c : Code} (l : Launch) (hst : l.stackTraces = false) {b L : Nat} {xs : Nat → Int32} (hx : p.tables.exec = Jvm.exec) (hb : c.code = code) (hml : c.maxLocals = 9) (hown : s.vm.findClass RL = some m.cls) (hts : ∀ w ∈ lw_tbl, w.before #[Value.ref b] s = true) (hX0 : va_X b L xs s s.heap) (hbl : b < s.heap.size) (hX : xT (fun q => s.heap.size ≤ q) s) (hN : nC s) (hTS : sAll s.heap.size s) {D : va_G} {cI cJ cZ cMic cSrc cSt cAI cAJ cD : ClassId} (hK : va_K D vwCl (CT cI cJ cZ cMic cSrc cSt cAI cAJ ++ [(cD, .double)]) s) {Q : State → Prop} {i j : Nat} (hi : i + 6 ≤ L) (hL : L ≤ 3072) (hj : j < 512) {aj ae : Nat} {ad am : Nat → Nat} {T : AT} {Sm : MS} {f : Nat → Int64} {g : Nat → UInt64} {ls : Array Slot} {H : Heap} {locs : List Loc} (hV : IV aR0 1586 aK1 aK2 T) (hrc : RC T) (hJ : JJ Sm) (G : gL cI cJ cZ cMic cSrc cSt cAI cAJ D ad (fun q => s.heap.size ≤ q) s.heap H locs T (oJ aj cJ f :: oD ae cD g :: MW cI cJ cZ am Sm)) (hl : lv_has ls 9 [(5, .int (nI i)), (4, .ref ae), (3, .ref aj), (2, .ref (am 0)), (1, .ref (ad 0)), (0, .ref b)]) (hq : ∀ {k1 : Nat} {r1 : Int32} {T1 : AT} {r2 : Int32} {S1 : MS}, g_X11_writeMap T 0 = some (k1, r1, T1) → fr_writeMap Sm = some (r2, S1) → (S1.1 0) = (vck 1 0 0 k1) ∧ ((vck 1 0 0 k1) = 0 → k1 = 0 ∧ r1 = r2)) (kk : ∀ {k1 : Nat} {r1 : Int32} {T1 : AT} {r2 : Int32} {S1 : MS} (ad2 : Nat → Nat) (f1 : Nat → Int64) (g1 : Nat → UInt64) (H1 : Heap) (locs1 : List Loc) (ls1 : Array Slot), g_X11_writeMap T 0 = some (k1, r1, T1) → fr_writeMap Sm = some (r2, S1) → ad2 0 = ad 0 → IV aR0 1586 aK1 aK2 T1 → RC T1 → JJ S1 → gL cI cJ cZ cMic cSrc cSt cAI cAJ D ad2 (fun q => s.heap.size ≤ q) s.heap H1 locs1 T1 (oJ aj cJ f1 :: oD ae cD g1 :: MW cI cJ cZ am S1) → lv_has ls1 9 [(5, .int (nI i)), (4, .ref ae), (3, .ref aj), (2, .ref (am 0)), (1, .ref (ad2 0)), (0, .ref b)] → W p l e room_1 s m #[Value.ref b] below meth c H1 locs1 (19 + T1.1 + (j + 1)) (38467 + sg T1 + 6 * (j + 1)) Q (F0 m 2439 ls1 [])) : W p l e room_1 s m #[Value.ref b] below meth c H locs (19 + T.1 + j) (38467 + sg T + 6 * j) Q (F0 m 1834 ls []) := by
  have E : cE p c cL_law s m #[Value.ref b] lw_tbl D RL (CT cI cJ cZ cMic cSrc cSt cAI cAJ ++ [(cD, .double)]) := ⟨hx, hb, hts, hown, hK⟩
  have hA : ∀ q : Nat, s.heap.size ≤ q → s.heap.size ≤ q := fun _ h => h
  have h0T : 0 < T.1 := Nat.lt_of_lt_of_le (by decide) hV.1.2.2
  have h0s : T.2.1 0 = (11, 0) := hV.2.1 0 ⟨by decide, by decide +kernel, by decide +kernel⟩
  refine lv_aload_n hx hb dL_law_1834 rfl (lv_at hl 4 rfl) ?_
  refine lv_aload_n hx hb dL_law_1835 rfl (lv_at hl 2 rfl) ?_
  obtain ⟨⟨k1, r1, T1⟩, hg, hc⟩ := cs_X11_writeMap T 0 hV (by decide +kernel)
  have hV1 : IV aR0 1586 aK1 aK2 T1 := hc.1.1
  have hg1 := s_X11_writeMap hg
  have hg2 := sg_le hg1
  have hg3 := hg1.1
  have hk := hV1.2.2.2.2.2.2
  have hrc1 := hg1.2.2 hrc
  have hr0 := a_room
  refine l_v (h0 := s.heap.size) (As := [.ref (ad 0), .ref aj]) (rest := []) E G hA hX hN (fun _ h => h) hTS hml (v_writeMap l hst D s.heap.size ad T 0  aj f hg hrc h0T h0s) (vx_cwSW 2 hts (glA (L := [Cond.methodLink RL 351 yL_writeMap, Cond.static yL_writeMap, Cond.initialized RL]) (gl_in [(7, 39), (7, 40), (1, 0)] (by decide +kernel) (by decide +kernel)) ⟨(t_of [Cond.codeWith yL_writeMap cL_writeMap 3 (some .int) [(0, 8, 11, 21)]] [(7, 41)] (by decide +kernel) _ List.mem_cons_self), List.all_eq_true.mp (by decide +kernel : [Cond.codeWith yL_writeMap cL_writeMap 3 (some .int) [(0, 8, 11, 21)]].all goodWord = true) _ List.mem_cons_self⟩) rfl rfl rfl (by decide +kernel) ⟨Nat.le_of_ble_eq_true rfl, Nat.le_of_ble_eq_true rfl⟩) rfl hl.1 rfl (lv_room (Nat.le_of_ble_eq_true rfl)) dL_law_1836 ⟨by show _ ≤ 601024; omega, by show _ ≤ 7293034; omega⟩ ?_
  intro ad2 H locs had G
  rw [← had 0 h0T] at hl
  refine lv_istore (lv' := [(6, .int (vck 1 0 0 k1)), (5, .int (nI i)), (4, .ref ae), (3, .ref aj), (2, .ref (am 0)), (1, .ref (ad2 0)), (0, .ref b)]) hx hb dL_law_1839 hl (by decide) rfl (fun ls hl => ?_)
  refine lv_aload_n hx hb dL_law_1841 rfl (lv_at hl 4 rfl) ?_
  obtain ⟨⟨r2, S1⟩, hf, hj⟩ := sj_writeMap Sm hJ
  have hJ1 : JJ S1 := hj
  refine y_mi (As := []) (rest := []) E G hA hX.2.2.2.2 hml (tr_writeMap l D cI cJ cZ am Sm  hf) (cwV 0 hts (glM (L := [Cond.methodLink RL 353 yX12_writeMap, Cond.instanceMethod yX12_writeMap, Cond.selects RX12 yX12_writeMap yX12_writeMap, Cond.initialized RX12]) (gl_in [(10, 124), (10, 125), (10, 126), (1, 14)] (by decide +kernel) (by decide +kernel)) ⟨(t_of [Cond.code yX12_writeMap cX12_writeMap 4 (some .int)] [(10, 127)] (by decide +kernel) _ List.mem_cons_self), List.all_eq_true.mp (by decide +kernel : [Cond.code yX12_writeMap cX12_writeMap 4 (some .int)].all goodWord = true) _ List.mem_cons_self⟩) rfl rfl rfl (by decide +kernel) ⟨Nat.le_of_ble_eq_true rfl, Nat.le_of_ble_eq_true rfl⟩) rfl hl.1 rfl (lv_room (Nat.le_of_ble_eq_true rfl)) dL_law_1842 ⟨by show _ ≤ 601024; omega, by show _ ≤ 7293034; omega⟩ (fun H locs G => ?_)
  refine lv_istore (lv' := [(7, .int r2), (6, .int (vck 1 0 0 k1)), (5, .int (nI i)), (4, .ref ae), (3, .ref aj), (2, .ref (am 0)), (1, .ref (ad2 0)), (0, .ref b)]) hx hb dL_law_1845 hl (by decide) rfl (fun ls hl => ?_)
  refine lv_aload_n hx hb dL_law_1847 rfl (lv_at hl 5 rfl) ?_
  refine y_mi (As := []) (rest := []) E G hA hX.2.2.2.2 hml (tr_thrown l D cI cJ cZ am S1 (r1 := S1.1 0) (S1 := S1) rfl) (cwV 0 hts (glM (L := [Cond.methodLink RL 354 yX12_thrown, Cond.instanceMethod yX12_thrown, Cond.selects RX12 yX12_thrown yX12_thrown, Cond.initialized RX12]) (gl_in [(8, 65), (8, 66), (8, 67), (1, 14)] (by decide +kernel) (by decide +kernel)) ⟨(t_of [Cond.code yX12_thrown cX12_thrown 1 (some .int)] [(8, 68)] (by decide +kernel) _ List.mem_cons_self), List.all_eq_true.mp (by decide +kernel : [Cond.code yX12_thrown cX12_thrown 1 (some .int)].all goodWord = true) _ List.mem_cons_self⟩) rfl rfl rfl (by decide +kernel) ⟨Nat.le_of_ble_eq_true rfl, Nat.le_of_ble_eq_true rfl⟩) rfl hl.1 rfl (lv_room (Nat.le_of_ble_eq_true rfl)) dL_law_1848 ⟨by show _ ≤ 601024; omega, by show _ ≤ 7293034; omega⟩ (fun H locs G => ?_)
  refine lv_iload hx hb dL_law_1851 (lv_at hl 1 rfl) ?_
  refine lv_icmp_eq (tgt := 1858) hx hb dL_law_1853 (by decide) (fun c1 => ?_) (fun c1 => absurd (hq hg hf).1 c1)
  refine lv_iload hx hb dL_law_1858 (lv_at hl 1 rfl) ?_
  refine lv_if_ne (tgt := 1875) hx hb dL_law_1860 (by decide) (fun c1 => ?_) (fun c1 => ?_)
  · refine lv_goto (tgt := 2439) hx hb dL_law_1875 (by decide) ?_
    have hl := lv_sub hl [2, 3, 4, 5, 6, 7] rfl
    refine W.widen (k := 19 + T1.1 + (j + 1)) (n := 38467 + sg T1 + 6 * (j + 1)) (by omega) (by omega) ?_
    exact kk ad2 (vfJ k1 f r1.toInt64) g H locs ls hg hf (had 0 h0T) hV1 hrc1 hJ1 G hl
  obtain ⟨hk0, hq2⟩ := (hq hg hf).2 c1
  subst hk0
  refine lv_aload_n hx hb dL_law_1863 rfl (lv_at hl 4 rfl) ?_
  refine lv_iconst (v := 0) hx hb dL_law_1864 (by decide) ?_
  refine va_lald hx hb hK G.1 T1.1 1 (tW_at _ _ _ _ _) rfl (vp_in_nI (n := 0) (N := 1) (by decide) (by decide)) dL_law_1865 ?_
  rw [show (vfJ 0 f r1.toInt64) (0 : Int32).toNatClampNeg = r1.toInt64 from rfl]
  refine lv_iload hx hb dL_law_1866 (lv_at hl 0 rfl) ?_
  refine lv_i2l (v := r2.toInt64) hx hb dL_law_1868 rfl ?_
  refine W.lcmp hx hb dL_law_1869 ?_
  refine lv_if_eq (tgt := 1875) hx hb dL_law_1870 (by decide) (fun c1 => ?_) (fun c1 => absurd (by rw [hq2]; exact lg_cmp_rf _) c1)
  refine lv_goto (tgt := 2439) hx hb dL_law_1875 (by decide) ?_
  have hl := lv_sub hl [2, 3, 4, 5, 6, 7] rfl
  refine W.widen (k := 19 + T1.1 + (j + 1)) (n := 38467 + sg T1 + 6 * (j + 1)) (by omega) (by omega) ?_
  exact kk ad2 (vfJ 0 f r1.toInt64) g H locs ls hg hf (had 0 h0T) hV1 hrc1 hJ1 G hl
end
section
/-! 17g.arm6.lean.txt -/
theorem dL_law_1878 : decode cL_law 1878 = .ok (.aload_n 1, 1) := de_43 (lb_117 (j := 6) (b := 43) rfl)
theorem dL_law_1879 : decode cL_law 1879 = .ok (.aload_n 0, 1) := de_42 (lb_117 (j := 7) (b := 42) rfl)
theorem dL_law_1880 : decode cL_law 1880 = .ok (.iload 5, 2) := de_21 (lb_117 (j := 8) (b := 21) rfl) (lb_117 (j := 9) (b := 5) rfl) rfl
theorem dL_law_1882 : decode cL_law 1882 = .ok (.iconst 1, 1) := de_4 (lb_117 (j := 10) (b := 4) rfl)
theorem dL_law_1883 : decode cL_law 1883 = .ok (.iadd, 1) := de_96 (lb_117 (j := 11) (b := 96) rfl)
theorem dL_law_1884 : decode cL_law 1884 = .ok (.iaload, 1) := de_46 (lb_117 (j := 12) (b := 46) rfl)
theorem dL_law_1885 : decode cL_law 1885 = .ok (.aload_n 3, 1) := de_45 (lb_117 (j := 13) (b := 45) rfl)
theorem dL_law_1886 : decode cL_law 1886 = .ok (.invokestatic 357, 3) := de_184 (lb_117 (j := 14) (b := 184) rfl) (lb_117 (j := 15) (b := 1) rfl) (lb_118 (j := 0) (b := 101) rfl) rfl
theorem dL_law_1889 : decode cL_law 1889 = .ok (.istore 6, 2) := de_54 (lb_118 (j := 1) (b := 54) rfl) (lb_118 (j := 2) (b := 6) rfl) rfl
theorem dL_law_1891 : decode cL_law 1891 = .ok (.aload_n 2, 1) := de_44 (lb_118 (j := 3) (b := 44) rfl)
theorem dL_law_1892 : decode cL_law 1892 = .ok (.aload_n 0, 1) := de_42 (lb_118 (j := 4) (b := 42) rfl)
theorem dL_law_1893 : decode cL_law 1893 = .ok (.iload 5, 2) := de_21 (lb_118 (j := 5) (b := 21) rfl) (lb_118 (j := 6) (b := 5) rfl) rfl
theorem dL_law_1895 : decode cL_law 1895 = .ok (.iconst 1, 1) := de_4 (lb_118 (j := 7) (b := 4) rfl)
theorem dL_law_1896 : decode cL_law 1896 = .ok (.iadd, 1) := de_96 (lb_118 (j := 8) (b := 96) rfl)
theorem dL_law_1897 : decode cL_law 1897 = .ok (.iaload, 1) := de_46 (lb_118 (j := 9) (b := 46) rfl)
theorem dL_law_1898 : decode cL_law 1898 = .ok (.invokevirtual 359, 3) := de_182 (lb_118 (j := 10) (b := 182) rfl) (lb_118 (j := 11) (b := 1) rfl) (lb_118 (j := 12) (b := 103) rfl) rfl
theorem dL_law_1901 : decode cL_law 1901 = .ok (.istore 7, 2) := de_54 (lb_118 (j := 13) (b := 54) rfl) (lb_118 (j := 14) (b := 7) rfl) rfl
theorem dL_law_1903 : decode cL_law 1903 = .ok (.goto 536, 3) := de_167 (lb_118 (j := 15) (b := 167) rfl) (lb_119 (j := 0) (b := 2) rfl) (lb_119 (j := 1) (b := 24) rfl) (by decide +kernel)
theorem dL_law_1906 : decode cL_law 1906 = .ok (.aload_n 1, 1) := de_43 (lb_119 (j := 2) (b := 43) rfl)
theorem dL_law_1907 : decode cL_law 1907 = .ok (.aload_n 0, 1) := de_42 (lb_119 (j := 3) (b := 42) rfl)
theorem dL_law_1908 : decode cL_law 1908 = .ok (.iload 5, 2) := de_21 (lb_119 (j := 4) (b := 21) rfl) (lb_119 (j := 5) (b := 5) rfl) rfl
theorem dL_law_1910 : decode cL_law 1910 = .ok (.iconst 1, 1) := de_4 (lb_119 (j := 6) (b := 4) rfl)
theorem dL_law_1911 : decode cL_law 1911 = .ok (.iadd, 1) := de_96 (lb_119 (j := 7) (b := 96) rfl)
theorem dL_law_1912 : decode cL_law 1912 = .ok (.iaload, 1) := de_46 (lb_119 (j := 8) (b := 46) rfl)
theorem dL_law_1913 : decode cL_law 1913 = .ok (.aload_n 0, 1) := de_42 (lb_119 (j := 9) (b := 42) rfl)
theorem dL_law_1914 : decode cL_law 1914 = .ok (.iload 5, 2) := de_21 (lb_119 (j := 10) (b := 21) rfl) (lb_119 (j := 11) (b := 5) rfl) rfl
theorem dL_law_1916 : decode cL_law 1916 = .ok (.iconst 2, 1) := de_5 (lb_119 (j := 12) (b := 5) rfl)
theorem dL_law_1917 : decode cL_law 1917 = .ok (.iadd, 1) := de_96 (lb_119 (j := 13) (b := 96) rfl)
theorem dL_law_1918 : decode cL_law 1918 = .ok (.iaload, 1) := de_46 (lb_119 (j := 14) (b := 46) rfl)
theorem dL_law_1919 : decode cL_law 1919 = .ok (.aload_n 3, 1) := de_45 (lb_119 (j := 15) (b := 45) rfl)
theorem dL_law_1920 : decode cL_law 1920 = .ok (.invokestatic 360, 3) := de_184 (lb_120 (j := 0) (b := 184) rfl) (lb_120 (j := 1) (b := 1) rfl) (lb_120 (j := 2) (b := 104) rfl) rfl
theorem dL_law_1923 : decode cL_law 1923 = .ok (.istore 6, 2) := de_54 (lb_120 (j := 3) (b := 54) rfl) (lb_120 (j := 4) (b := 6) rfl) rfl
theorem dL_law_1925 : decode cL_law 1925 = .ok (.aload_n 2, 1) := de_44 (lb_120 (j := 5) (b := 44) rfl)
theorem dL_law_1926 : decode cL_law 1926 = .ok (.aload_n 0, 1) := de_42 (lb_120 (j := 6) (b := 42) rfl)
theorem dL_law_1927 : decode cL_law 1927 = .ok (.iload 5, 2) := de_21 (lb_120 (j := 7) (b := 21) rfl) (lb_120 (j := 8) (b := 5) rfl) rfl
theorem dL_law_1929 : decode cL_law 1929 = .ok (.iconst 1, 1) := de_4 (lb_120 (j := 9) (b := 4) rfl)
theorem dL_law_1930 : decode cL_law 1930 = .ok (.iadd, 1) := de_96 (lb_120 (j := 10) (b := 96) rfl)
theorem dL_law_1931 : decode cL_law 1931 = .ok (.iaload, 1) := de_46 (lb_120 (j := 11) (b := 46) rfl)
theorem dL_law_1932 : decode cL_law 1932 = .ok (.aload_n 0, 1) := de_42 (lb_120 (j := 12) (b := 42) rfl)
theorem dL_law_1933 : decode cL_law 1933 = .ok (.iload 5, 2) := de_21 (lb_120 (j := 13) (b := 21) rfl) (lb_120 (j := 14) (b := 5) rfl) rfl
theorem dL_law_1935 : decode cL_law 1935 = .ok (.iconst 2, 1) := de_5 (lb_120 (j := 15) (b := 5) rfl)
theorem dL_law_1936 : decode cL_law 1936 = .ok (.iadd, 1) := de_96 (lb_121 (j := 0) (b := 96) rfl)
theorem dL_law_1937 : decode cL_law 1937 = .ok (.iaload, 1) := de_46 (lb_121 (j := 1) (b := 46) rfl)
theorem dL_law_1938 : decode cL_law 1938 = .ok (.invokevirtual 362, 3) := de_182 (lb_121 (j := 2) (b := 182) rfl) (lb_121 (j := 3) (b := 1) rfl) (lb_121 (j := 4) (b := 106) rfl) rfl
theorem dL_law_1941 : decode cL_law 1941 = .ok (.istore 7, 2) := de_54 (lb_121 (j := 5) (b := 54) rfl) (lb_121 (j := 6) (b := 7) rfl) rfl
theorem dL_law_1943 : decode cL_law 1943 = .ok (.goto 496, 3) := de_167 (lb_121 (j := 7) (b := 167) rfl) (lb_121 (j := 8) (b := 1) rfl) (lb_121 (j := 9) (b := 240) rfl) (by decide +kernel)
theorem dL_law_1946 : decode cL_law 1946 = .ok (.aload_n 1, 1) := de_43 (lb_121 (j := 10) (b := 43) rfl)
theorem dL_law_1947 : decode cL_law 1947 = .ok (.aload_n 0, 1) := de_42 (lb_121 (j := 11) (b := 42) rfl)
theorem dL_law_1948 : decode cL_law 1948 = .ok (.iload 5, 2) := de_21 (lb_121 (j := 12) (b := 21) rfl) (lb_121 (j := 13) (b := 5) rfl) rfl
theorem dL_law_1950 : decode cL_law 1950 = .ok (.iconst 1, 1) := de_4 (lb_121 (j := 14) (b := 4) rfl)
theorem dL_law_1951 : decode cL_law 1951 = .ok (.iadd, 1) := de_96 (lb_121 (j := 15) (b := 96) rfl)
theorem dL_law_1952 : decode cL_law 1952 = .ok (.iaload, 1) := de_46 (lb_122 (j := 0) (b := 46) rfl)
theorem dL_law_1953 : decode cL_law 1953 = .ok (.aload_n 0, 1) := de_42 (lb_122 (j := 1) (b := 42) rfl)
theorem dL_law_1954 : decode cL_law 1954 = .ok (.iload 5, 2) := de_21 (lb_122 (j := 2) (b := 21) rfl) (lb_122 (j := 3) (b := 5) rfl) rfl
theorem dL_law_1956 : decode cL_law 1956 = .ok (.iconst 2, 1) := de_5 (lb_122 (j := 4) (b := 5) rfl)
theorem dL_law_1957 : decode cL_law 1957 = .ok (.iadd, 1) := de_96 (lb_122 (j := 5) (b := 96) rfl)
theorem dL_law_1958 : decode cL_law 1958 = .ok (.iaload, 1) := de_46 (lb_122 (j := 6) (b := 46) rfl)
theorem dL_law_1959 : decode cL_law 1959 = .ok (.aload_n 0, 1) := de_42 (lb_122 (j := 7) (b := 42) rfl)
theorem dL_law_1960 : decode cL_law 1960 = .ok (.iload 5, 2) := de_21 (lb_122 (j := 8) (b := 21) rfl) (lb_122 (j := 9) (b := 5) rfl) rfl
theorem dL_law_1962 : decode cL_law 1962 = .ok (.iconst 3, 1) := de_6 (lb_122 (j := 10) (b := 6) rfl)
theorem dL_law_1963 : decode cL_law 1963 = .ok (.iadd, 1) := de_96 (lb_122 (j := 11) (b := 96) rfl)
theorem dL_law_1964 : decode cL_law 1964 = .ok (.iaload, 1) := de_46 (lb_122 (j := 12) (b := 46) rfl)
theorem dL_law_1965 : decode cL_law 1965 = .ok (.aload_n 3, 1) := de_45 (lb_122 (j := 13) (b := 45) rfl)
theorem dL_law_1966 : decode cL_law 1966 = .ok (.invokestatic 363, 3) := de_184 (lb_122 (j := 14) (b := 184) rfl) (lb_122 (j := 15) (b := 1) rfl) (lb_123 (j := 0) (b := 107) rfl) rfl
theorem dL_law_1969 : decode cL_law 1969 = .ok (.istore 6, 2) := de_54 (lb_123 (j := 1) (b := 54) rfl) (lb_123 (j := 2) (b := 6) rfl) rfl
theorem dL_law_1971 : decode cL_law 1971 = .ok (.aload_n 2, 1) := de_44 (lb_123 (j := 3) (b := 44) rfl)
theorem dL_law_1972 : decode cL_law 1972 = .ok (.aload_n 0, 1) := de_42 (lb_123 (j := 4) (b := 42) rfl)
theorem dL_law_1973 : decode cL_law 1973 = .ok (.iload 5, 2) := de_21 (lb_123 (j := 5) (b := 21) rfl) (lb_123 (j := 6) (b := 5) rfl) rfl
theorem dL_law_1975 : decode cL_law 1975 = .ok (.iconst 1, 1) := de_4 (lb_123 (j := 7) (b := 4) rfl)
theorem dL_law_1976 : decode cL_law 1976 = .ok (.iadd, 1) := de_96 (lb_123 (j := 8) (b := 96) rfl)
theorem dL_law_1977 : decode cL_law 1977 = .ok (.iaload, 1) := de_46 (lb_123 (j := 9) (b := 46) rfl)
theorem dL_law_1978 : decode cL_law 1978 = .ok (.aload_n 0, 1) := de_42 (lb_123 (j := 10) (b := 42) rfl)
theorem dL_law_1979 : decode cL_law 1979 = .ok (.iload 5, 2) := de_21 (lb_123 (j := 11) (b := 21) rfl) (lb_123 (j := 12) (b := 5) rfl) rfl
theorem dL_law_1981 : decode cL_law 1981 = .ok (.iconst 2, 1) := de_5 (lb_123 (j := 13) (b := 5) rfl)
theorem dL_law_1982 : decode cL_law 1982 = .ok (.iadd, 1) := de_96 (lb_123 (j := 14) (b := 96) rfl)
theorem dL_law_1983 : decode cL_law 1983 = .ok (.iaload, 1) := de_46 (lb_123 (j := 15) (b := 46) rfl)
theorem dL_law_1984 : decode cL_law 1984 = .ok (.aload_n 0, 1) := de_42 (lb_124 (j := 0) (b := 42) rfl)
theorem dL_law_1985 : decode cL_law 1985 = .ok (.iload 5, 2) := de_21 (lb_124 (j := 1) (b := 21) rfl) (lb_124 (j := 2) (b := 5) rfl) rfl
theorem dL_law_1987 : decode cL_law 1987 = .ok (.iconst 3, 1) := de_6 (lb_124 (j := 3) (b := 6) rfl)
theorem dL_law_1988 : decode cL_law 1988 = .ok (.iadd, 1) := de_96 (lb_124 (j := 4) (b := 96) rfl)
theorem dL_law_1989 : decode cL_law 1989 = .ok (.iaload, 1) := de_46 (lb_124 (j := 5) (b := 46) rfl)
theorem dL_law_1990 : decode cL_law 1990 = .ok (.invokevirtual 365, 3) := de_182 (lb_124 (j := 6) (b := 182) rfl) (lb_124 (j := 7) (b := 1) rfl) (lb_124 (j := 8) (b := 109) rfl) rfl
theorem dL_law_1993 : decode cL_law 1993 = .ok (.lstore 7, 2) := de_55 (lb_124 (j := 9) (b := 55) rfl) (lb_124 (j := 10) (b := 7) rfl) rfl
theorem dL_law_1995 : decode cL_law 1995 = .ok (.goto 444, 3) := de_167 (lb_124 (j := 11) (b := 167) rfl) (lb_124 (j := 12) (b := 1) rfl) (lb_124 (j := 13) (b := 188) rfl) (by decide +kernel)
theorem dL_law_1998 : decode cL_law 1998 = .ok (.aload_n 1, 1) := de_43 (lb_124 (j := 14) (b := 43) rfl)
theorem dL_law_1999 : decode cL_law 1999 = .ok (.aload_n 0, 1) := de_42 (lb_124 (j := 15) (b := 42) rfl)
theorem dL_law_2000 : decode cL_law 2000 = .ok (.iload 5, 2) := de_21 (lb_125 (j := 0) (b := 21) rfl) (lb_125 (j := 1) (b := 5) rfl) rfl
theorem dL_law_2002 : decode cL_law 2002 = .ok (.iconst 1, 1) := de_4 (lb_125 (j := 2) (b := 4) rfl)
theorem dL_law_2003 : decode cL_law 2003 = .ok (.iadd, 1) := de_96 (lb_125 (j := 3) (b := 96) rfl)
theorem dL_law_2004 : decode cL_law 2004 = .ok (.iaload, 1) := de_46 (lb_125 (j := 4) (b := 46) rfl)
theorem dL_law_2005 : decode cL_law 2005 = .ok (.aload_n 3, 1) := de_45 (lb_125 (j := 5) (b := 45) rfl)
theorem dL_law_2006 : decode cL_law 2006 = .ok (.invokestatic 366, 3) := de_184 (lb_125 (j := 6) (b := 184) rfl) (lb_125 (j := 7) (b := 1) rfl) (lb_125 (j := 8) (b := 110) rfl) rfl
theorem dL_law_2009 : decode cL_law 2009 = .ok (.istore 6, 2) := de_54 (lb_125 (j := 9) (b := 54) rfl) (lb_125 (j := 10) (b := 6) rfl) rfl
theorem dL_law_2011 : decode cL_law 2011 = .ok (.aload_n 2, 1) := de_44 (lb_125 (j := 11) (b := 44) rfl)
theorem dL_law_2012 : decode cL_law 2012 = .ok (.aload_n 0, 1) := de_42 (lb_125 (j := 12) (b := 42) rfl)
theorem dL_law_2013 : decode cL_law 2013 = .ok (.iload 5, 2) := de_21 (lb_125 (j := 13) (b := 21) rfl) (lb_125 (j := 14) (b := 5) rfl) rfl
theorem dL_law_2015 : decode cL_law 2015 = .ok (.iconst 1, 1) := de_4 (lb_125 (j := 15) (b := 4) rfl)
theorem dL_law_2016 : decode cL_law 2016 = .ok (.iadd, 1) := de_96 (lb_126 (j := 0) (b := 96) rfl)
theorem dL_law_2017 : decode cL_law 2017 = .ok (.iaload, 1) := de_46 (lb_126 (j := 1) (b := 46) rfl)
theorem dL_law_2018 : decode cL_law 2018 = .ok (.invokevirtual 368, 3) := de_182 (lb_126 (j := 2) (b := 182) rfl) (lb_126 (j := 3) (b := 1) rfl) (lb_126 (j := 4) (b := 112) rfl) rfl
theorem dL_law_2021 : decode cL_law 2021 = .ok (.istore 7, 2) := de_54 (lb_126 (j := 5) (b := 54) rfl) (lb_126 (j := 6) (b := 7) rfl) rfl
theorem dL_law_2023 : decode cL_law 2023 = .ok (.goto 416, 3) := de_167 (lb_126 (j := 7) (b := 167) rfl) (lb_126 (j := 8) (b := 1) rfl) (lb_126 (j := 9) (b := 160) rfl) (by decide +kernel)
theorem dL_law_2026 : decode cL_law 2026 = .ok (.aload_n 1, 1) := de_43 (lb_126 (j := 10) (b := 43) rfl)
theorem dL_law_2027 : decode cL_law 2027 = .ok (.aload_n 0, 1) := de_42 (lb_126 (j := 11) (b := 42) rfl)
theorem dL_law_2028 : decode cL_law 2028 = .ok (.iload 5, 2) := de_21 (lb_126 (j := 12) (b := 21) rfl) (lb_126 (j := 13) (b := 5) rfl) rfl
theorem dL_law_2030 : decode cL_law 2030 = .ok (.iconst 1, 1) := de_4 (lb_126 (j := 14) (b := 4) rfl)
theorem dL_law_2031 : decode cL_law 2031 = .ok (.iadd, 1) := de_96 (lb_126 (j := 15) (b := 96) rfl)
theorem dL_law_2032 : decode cL_law 2032 = .ok (.iaload, 1) := de_46 (lb_127 (j := 0) (b := 46) rfl)
theorem dL_law_2033 : decode cL_law 2033 = .ok (.aload_n 3, 1) := de_45 (lb_127 (j := 1) (b := 45) rfl)
theorem dL_law_2034 : decode cL_law 2034 = .ok (.invokestatic 369, 3) := de_184 (lb_127 (j := 2) (b := 184) rfl) (lb_127 (j := 3) (b := 1) rfl) (lb_127 (j := 4) (b := 113) rfl) rfl
theorem dL_law_2037 : decode cL_law 2037 = .ok (.istore 6, 2) := de_54 (lb_127 (j := 5) (b := 54) rfl) (lb_127 (j := 6) (b := 6) rfl) rfl
theorem dL_law_2039 : decode cL_law 2039 = .ok (.aload_n 2, 1) := de_44 (lb_127 (j := 7) (b := 44) rfl)
theorem dL_law_2040 : decode cL_law 2040 = .ok (.aload_n 0, 1) := de_42 (lb_127 (j := 8) (b := 42) rfl)
theorem dL_law_2041 : decode cL_law 2041 = .ok (.iload 5, 2) := de_21 (lb_127 (j := 9) (b := 21) rfl) (lb_127 (j := 10) (b := 5) rfl) rfl
theorem dL_law_2043 : decode cL_law 2043 = .ok (.iconst 1, 1) := de_4 (lb_127 (j := 11) (b := 4) rfl)
theorem dL_law_2044 : decode cL_law 2044 = .ok (.iadd, 1) := de_96 (lb_127 (j := 12) (b := 96) rfl)
theorem dL_law_2045 : decode cL_law 2045 = .ok (.iaload, 1) := de_46 (lb_127 (j := 13) (b := 46) rfl)
theorem dL_law_2046 : decode cL_law 2046 = .ok (.invokevirtual 371, 3) := de_182 (lb_127 (j := 14) (b := 182) rfl) (lb_127 (j := 15) (b := 1) rfl) (lb_128 (j := 0) (b := 115) rfl) rfl
theorem dL_law_2049 : decode cL_law 2049 = .ok (.istore 7, 2) := de_54 (lb_128 (j := 1) (b := 54) rfl) (lb_128 (j := 2) (b := 7) rfl) rfl
theorem dL_law_2051 : decode cL_law 2051 = .ok (.goto 388, 3) := de_167 (lb_128 (j := 3) (b := 167) rfl) (lb_128 (j := 4) (b := 1) rfl) (lb_128 (j := 5) (b := 132) rfl) (by decide +kernel)
theorem dL_law_2054 : decode cL_law 2054 = .ok (.aload_n 1, 1) := de_43 (lb_128 (j := 6) (b := 43) rfl)
theorem dL_law_2055 : decode cL_law 2055 = .ok (.aload_n 0, 1) := de_42 (lb_128 (j := 7) (b := 42) rfl)
theorem dL_law_2056 : decode cL_law 2056 = .ok (.iload 5, 2) := de_21 (lb_128 (j := 8) (b := 21) rfl) (lb_128 (j := 9) (b := 5) rfl) rfl
theorem dL_law_2058 : decode cL_law 2058 = .ok (.iconst 1, 1) := de_4 (lb_128 (j := 10) (b := 4) rfl)
theorem dL_law_2059 : decode cL_law 2059 = .ok (.iadd, 1) := de_96 (lb_128 (j := 11) (b := 96) rfl)
theorem dL_law_2060 : decode cL_law 2060 = .ok (.iaload, 1) := de_46 (lb_128 (j := 12) (b := 46) rfl)
theorem dL_law_2061 : decode cL_law 2061 = .ok (.aload_n 0, 1) := de_42 (lb_128 (j := 13) (b := 42) rfl)
theorem dL_law_2062 : decode cL_law 2062 = .ok (.iload 5, 2) := de_21 (lb_128 (j := 14) (b := 21) rfl) (lb_128 (j := 15) (b := 5) rfl) rfl
theorem dL_law_2064 : decode cL_law 2064 = .ok (.iconst 2, 1) := de_5 (lb_129 (j := 0) (b := 5) rfl)
theorem dL_law_2065 : decode cL_law 2065 = .ok (.iadd, 1) := de_96 (lb_129 (j := 1) (b := 96) rfl)
theorem dL_law_2066 : decode cL_law 2066 = .ok (.iaload, 1) := de_46 (lb_129 (j := 2) (b := 46) rfl)
theorem dL_law_2067 : decode cL_law 2067 = .ok (.ifCond .eq 7, 3) := de_153 (lb_129 (j := 3) (b := 153) rfl) (lb_129 (j := 4) (b := 0) rfl) (lb_129 (j := 5) (b := 7) rfl) (by decide +kernel)
theorem dL_law_2070 : decode cL_law 2070 = .ok (.iconst 1, 1) := de_4 (lb_129 (j := 6) (b := 4) rfl)
theorem dL_law_2071 : decode cL_law 2071 = .ok (.goto 4, 3) := de_167 (lb_129 (j := 7) (b := 167) rfl) (lb_129 (j := 8) (b := 0) rfl) (lb_129 (j := 9) (b := 4) rfl) (by decide +kernel)
theorem dL_law_2074 : decode cL_law 2074 = .ok (.iconst 0, 1) := de_3 (lb_129 (j := 10) (b := 3) rfl)
theorem dL_law_2075 : decode cL_law 2075 = .ok (.aload_n 3, 1) := de_45 (lb_129 (j := 11) (b := 45) rfl)
theorem dL_law_2076 : decode cL_law 2076 = .ok (.invokestatic 372, 3) := de_184 (lb_129 (j := 12) (b := 184) rfl) (lb_129 (j := 13) (b := 1) rfl) (lb_129 (j := 14) (b := 116) rfl) rfl
theorem dL_law_2079 : decode cL_law 2079 = .ok (.istore 6, 2) := de_54 (lb_129 (j := 15) (b := 54) rfl) (lb_130 (j := 0) (b := 6) rfl) rfl
theorem dL_law_2081 : decode cL_law 2081 = .ok (.aload_n 2, 1) := de_44 (lb_130 (j := 1) (b := 44) rfl)
theorem dL_law_2082 : decode cL_law 2082 = .ok (.aload_n 0, 1) := de_42 (lb_130 (j := 2) (b := 42) rfl)
theorem dL_law_2083 : decode cL_law 2083 = .ok (.iload 5, 2) := de_21 (lb_130 (j := 3) (b := 21) rfl) (lb_130 (j := 4) (b := 5) rfl) rfl
theorem dL_law_2085 : decode cL_law 2085 = .ok (.iconst 1, 1) := de_4 (lb_130 (j := 5) (b := 4) rfl)
theorem dL_law_2086 : decode cL_law 2086 = .ok (.iadd, 1) := de_96 (lb_130 (j := 6) (b := 96) rfl)
theorem dL_law_2087 : decode cL_law 2087 = .ok (.iaload, 1) := de_46 (lb_130 (j := 7) (b := 46) rfl)
theorem dL_law_2088 : decode cL_law 2088 = .ok (.aload_n 0, 1) := de_42 (lb_130 (j := 8) (b := 42) rfl)
theorem dL_law_2089 : decode cL_law 2089 = .ok (.iload 5, 2) := de_21 (lb_130 (j := 9) (b := 21) rfl) (lb_130 (j := 10) (b := 5) rfl) rfl
theorem dL_law_2091 : decode cL_law 2091 = .ok (.iconst 2, 1) := de_5 (lb_130 (j := 11) (b := 5) rfl)
theorem dL_law_2092 : decode cL_law 2092 = .ok (.iadd, 1) := de_96 (lb_130 (j := 12) (b := 96) rfl)
theorem dL_law_2093 : decode cL_law 2093 = .ok (.iaload, 1) := de_46 (lb_130 (j := 13) (b := 46) rfl)
theorem dL_law_2094 : decode cL_law 2094 = .ok (.ifCond .eq 7, 3) := de_153 (lb_130 (j := 14) (b := 153) rfl) (lb_130 (j := 15) (b := 0) rfl) (lb_131 (j := 0) (b := 7) rfl) (by decide +kernel)
theorem dL_law_2097 : decode cL_law 2097 = .ok (.iconst 1, 1) := de_4 (lb_131 (j := 1) (b := 4) rfl)
theorem dL_law_2098 : decode cL_law 2098 = .ok (.goto 4, 3) := de_167 (lb_131 (j := 2) (b := 167) rfl) (lb_131 (j := 3) (b := 0) rfl) (lb_131 (j := 4) (b := 4) rfl) (by decide +kernel)
theorem dL_law_2101 : decode cL_law 2101 = .ok (.iconst 0, 1) := de_3 (lb_131 (j := 5) (b := 3) rfl)
theorem dL_law_2102 : decode cL_law 2102 = .ok (.invokevirtual 375, 3) := de_182 (lb_131 (j := 6) (b := 182) rfl) (lb_131 (j := 7) (b := 1) rfl) (lb_131 (j := 8) (b := 119) rfl) rfl
theorem dL_law_2105 : decode cL_law 2105 = .ok (.istore 7, 2) := de_54 (lb_131 (j := 9) (b := 54) rfl) (lb_131 (j := 10) (b := 7) rfl) rfl
theorem dL_law_2107 : decode cL_law 2107 = .ok (.goto 332, 3) := de_167 (lb_131 (j := 11) (b := 167) rfl) (lb_131 (j := 12) (b := 1) rfl) (lb_131 (j := 13) (b := 76) rfl) (by decide +kernel)
theorem dL_law_2110 : decode cL_law 2110 = .ok (.aload_n 1, 1) := de_43 (lb_131 (j := 14) (b := 43) rfl)
theorem dL_law_2111 : decode cL_law 2111 = .ok (.aload_n 0, 1) := de_42 (lb_131 (j := 15) (b := 42) rfl)
theorem dL_law_2112 : decode cL_law 2112 = .ok (.iload 5, 2) := de_21 (lb_132 (j := 0) (b := 21) rfl) (lb_132 (j := 1) (b := 5) rfl) rfl
theorem dL_law_2114 : decode cL_law 2114 = .ok (.iconst 1, 1) := de_4 (lb_132 (j := 2) (b := 4) rfl)
theorem dL_law_2115 : decode cL_law 2115 = .ok (.iadd, 1) := de_96 (lb_132 (j := 3) (b := 96) rfl)
theorem dL_law_2116 : decode cL_law 2116 = .ok (.iaload, 1) := de_46 (lb_132 (j := 4) (b := 46) rfl)
theorem dL_law_2117 : decode cL_law 2117 = .ok (.aload_n 0, 1) := de_42 (lb_132 (j := 5) (b := 42) rfl)
theorem dL_law_2118 : decode cL_law 2118 = .ok (.iload 5, 2) := de_21 (lb_132 (j := 6) (b := 21) rfl) (lb_132 (j := 7) (b := 5) rfl) rfl
theorem dL_law_2120 : decode cL_law 2120 = .ok (.iconst 2, 1) := de_5 (lb_132 (j := 8) (b := 5) rfl)
theorem dL_law_2121 : decode cL_law 2121 = .ok (.iadd, 1) := de_96 (lb_132 (j := 9) (b := 96) rfl)
theorem dL_law_2122 : decode cL_law 2122 = .ok (.iaload, 1) := de_46 (lb_132 (j := 10) (b := 46) rfl)
theorem dL_law_2123 : decode cL_law 2123 = .ok (.aload_n 3, 1) := de_45 (lb_132 (j := 11) (b := 45) rfl)
theorem dL_law_2124 : decode cL_law 2124 = .ok (.invokestatic 376, 3) := de_184 (lb_132 (j := 12) (b := 184) rfl) (lb_132 (j := 13) (b := 1) rfl) (lb_132 (j := 14) (b := 120) rfl) rfl
theorem dL_law_2127 : decode cL_law 2127 = .ok (.istore 6, 2) := de_54 (lb_132 (j := 15) (b := 54) rfl) (lb_133 (j := 0) (b := 6) rfl) rfl
theorem dL_law_2129 : decode cL_law 2129 = .ok (.aload_n 2, 1) := de_44 (lb_133 (j := 1) (b := 44) rfl)
theorem dL_law_2130 : decode cL_law 2130 = .ok (.aload_n 0, 1) := de_42 (lb_133 (j := 2) (b := 42) rfl)
theorem dL_law_2131 : decode cL_law 2131 = .ok (.iload 5, 2) := de_21 (lb_133 (j := 3) (b := 21) rfl) (lb_133 (j := 4) (b := 5) rfl) rfl
theorem dL_law_2133 : decode cL_law 2133 = .ok (.iconst 1, 1) := de_4 (lb_133 (j := 5) (b := 4) rfl)
theorem dL_law_2134 : decode cL_law 2134 = .ok (.iadd, 1) := de_96 (lb_133 (j := 6) (b := 96) rfl)
theorem dL_law_2135 : decode cL_law 2135 = .ok (.iaload, 1) := de_46 (lb_133 (j := 7) (b := 46) rfl)
theorem dL_law_2136 : decode cL_law 2136 = .ok (.aload_n 0, 1) := de_42 (lb_133 (j := 8) (b := 42) rfl)
theorem dL_law_2137 : decode cL_law 2137 = .ok (.iload 5, 2) := de_21 (lb_133 (j := 9) (b := 21) rfl) (lb_133 (j := 10) (b := 5) rfl) rfl
theorem dL_law_2139 : decode cL_law 2139 = .ok (.iconst 2, 1) := de_5 (lb_133 (j := 11) (b := 5) rfl)
theorem dL_law_2140 : decode cL_law 2140 = .ok (.iadd, 1) := de_96 (lb_133 (j := 12) (b := 96) rfl)
theorem dL_law_2141 : decode cL_law 2141 = .ok (.iaload, 1) := de_46 (lb_133 (j := 13) (b := 46) rfl)
theorem dL_law_2142 : decode cL_law 2142 = .ok (.invokevirtual 378, 3) := de_182 (lb_133 (j := 14) (b := 182) rfl) (lb_133 (j := 15) (b := 1) rfl) (lb_134 (j := 0) (b := 122) rfl) rfl
theorem dL_law_2145 : decode cL_law 2145 = .ok (.istore 7, 2) := de_54 (lb_134 (j := 1) (b := 54) rfl) (lb_134 (j := 2) (b := 7) rfl) rfl
theorem dL_law_2147 : decode cL_law 2147 = .ok (.goto 292, 3) := de_167 (lb_134 (j := 3) (b := 167) rfl) (lb_134 (j := 4) (b := 1) rfl) (lb_134 (j := 5) (b := 36) rfl) (by decide +kernel)
theorem dL_law_2150 : decode cL_law 2150 = .ok (.aload_n 1, 1) := de_43 (lb_134 (j := 6) (b := 43) rfl)
theorem dL_law_2151 : decode cL_law 2151 = .ok (.aload_n 0, 1) := de_42 (lb_134 (j := 7) (b := 42) rfl)
theorem dL_law_2152 : decode cL_law 2152 = .ok (.iload 5, 2) := de_21 (lb_134 (j := 8) (b := 21) rfl) (lb_134 (j := 9) (b := 5) rfl) rfl
theorem dL_law_2154 : decode cL_law 2154 = .ok (.iconst 1, 1) := de_4 (lb_134 (j := 10) (b := 4) rfl)
theorem dL_law_2155 : decode cL_law 2155 = .ok (.iadd, 1) := de_96 (lb_134 (j := 11) (b := 96) rfl)
theorem dL_law_2156 : decode cL_law 2156 = .ok (.iaload, 1) := de_46 (lb_134 (j := 12) (b := 46) rfl)
theorem dL_law_2157 : decode cL_law 2157 = .ok (.aload_n 0, 1) := de_42 (lb_134 (j := 13) (b := 42) rfl)
theorem dL_law_2158 : decode cL_law 2158 = .ok (.iload 5, 2) := de_21 (lb_134 (j := 14) (b := 21) rfl) (lb_134 (j := 15) (b := 5) rfl) rfl
theorem dL_law_2160 : decode cL_law 2160 = .ok (.iconst 2, 1) := de_5 (lb_135 (j := 0) (b := 5) rfl)
theorem dL_law_2161 : decode cL_law 2161 = .ok (.iadd, 1) := de_96 (lb_135 (j := 1) (b := 96) rfl)
theorem dL_law_2162 : decode cL_law 2162 = .ok (.iaload, 1) := de_46 (lb_135 (j := 2) (b := 46) rfl)
theorem dL_law_2163 : decode cL_law 2163 = .ok (.ifCond .eq 7, 3) := de_153 (lb_135 (j := 3) (b := 153) rfl) (lb_135 (j := 4) (b := 0) rfl) (lb_135 (j := 5) (b := 7) rfl) (by decide +kernel)
theorem dL_law_2166 : decode cL_law 2166 = .ok (.iconst 1, 1) := de_4 (lb_135 (j := 6) (b := 4) rfl)
theorem dL_law_2167 : decode cL_law 2167 = .ok (.goto 4, 3) := de_167 (lb_135 (j := 7) (b := 167) rfl) (lb_135 (j := 8) (b := 0) rfl) (lb_135 (j := 9) (b := 4) rfl) (by decide +kernel)
theorem dL_law_2170 : decode cL_law 2170 = .ok (.iconst 0, 1) := de_3 (lb_135 (j := 10) (b := 3) rfl)
theorem dL_law_2171 : decode cL_law 2171 = .ok (.aload_n 3, 1) := de_45 (lb_135 (j := 11) (b := 45) rfl)
theorem dL_law_2172 : decode cL_law 2172 = .ok (.invokestatic 379, 3) := de_184 (lb_135 (j := 12) (b := 184) rfl) (lb_135 (j := 13) (b := 1) rfl) (lb_135 (j := 14) (b := 123) rfl) rfl
theorem dL_law_2175 : decode cL_law 2175 = .ok (.istore 6, 2) := de_54 (lb_135 (j := 15) (b := 54) rfl) (lb_136 (j := 0) (b := 6) rfl) rfl
theorem dL_law_2177 : decode cL_law 2177 = .ok (.aload_n 2, 1) := de_44 (lb_136 (j := 1) (b := 44) rfl)
theorem dL_law_2178 : decode cL_law 2178 = .ok (.aload_n 0, 1) := de_42 (lb_136 (j := 2) (b := 42) rfl)
theorem dL_law_2179 : decode cL_law 2179 = .ok (.iload 5, 2) := de_21 (lb_136 (j := 3) (b := 21) rfl) (lb_136 (j := 4) (b := 5) rfl) rfl
theorem dL_law_2181 : decode cL_law 2181 = .ok (.iconst 1, 1) := de_4 (lb_136 (j := 5) (b := 4) rfl)
theorem dL_law_2182 : decode cL_law 2182 = .ok (.iadd, 1) := de_96 (lb_136 (j := 6) (b := 96) rfl)
theorem dL_law_2183 : decode cL_law 2183 = .ok (.iaload, 1) := de_46 (lb_136 (j := 7) (b := 46) rfl)
theorem dL_law_2184 : decode cL_law 2184 = .ok (.aload_n 0, 1) := de_42 (lb_136 (j := 8) (b := 42) rfl)
theorem dL_law_2185 : decode cL_law 2185 = .ok (.iload 5, 2) := de_21 (lb_136 (j := 9) (b := 21) rfl) (lb_136 (j := 10) (b := 5) rfl) rfl
theorem dL_law_2187 : decode cL_law 2187 = .ok (.iconst 2, 1) := de_5 (lb_136 (j := 11) (b := 5) rfl)
theorem dL_law_2188 : decode cL_law 2188 = .ok (.iadd, 1) := de_96 (lb_136 (j := 12) (b := 96) rfl)
theorem dL_law_2189 : decode cL_law 2189 = .ok (.iaload, 1) := de_46 (lb_136 (j := 13) (b := 46) rfl)
theorem dL_law_2190 : decode cL_law 2190 = .ok (.ifCond .eq 7, 3) := de_153 (lb_136 (j := 14) (b := 153) rfl) (lb_136 (j := 15) (b := 0) rfl) (lb_137 (j := 0) (b := 7) rfl) (by decide +kernel)
theorem dL_law_2193 : decode cL_law 2193 = .ok (.iconst 1, 1) := de_4 (lb_137 (j := 1) (b := 4) rfl)
theorem dL_law_2194 : decode cL_law 2194 = .ok (.goto 4, 3) := de_167 (lb_137 (j := 2) (b := 167) rfl) (lb_137 (j := 3) (b := 0) rfl) (lb_137 (j := 4) (b := 4) rfl) (by decide +kernel)
theorem dL_law_2197 : decode cL_law 2197 = .ok (.iconst 0, 1) := de_3 (lb_137 (j := 5) (b := 3) rfl)
theorem dL_law_2198 : decode cL_law 2198 = .ok (.invokevirtual 381, 3) := de_182 (lb_137 (j := 6) (b := 182) rfl) (lb_137 (j := 7) (b := 1) rfl) (lb_137 (j := 8) (b := 125) rfl) rfl
theorem dL_law_2201 : decode cL_law 2201 = .ok (.istore 7, 2) := de_54 (lb_137 (j := 9) (b := 54) rfl) (lb_137 (j := 10) (b := 7) rfl) rfl
theorem dL_law_2203 : decode cL_law 2203 = .ok (.goto 236, 3) := de_167 (lb_137 (j := 11) (b := 167) rfl) (lb_137 (j := 12) (b := 0) rfl) (lb_137 (j := 13) (b := 236) rfl) (by decide +kernel)
set_option maxHeartbeats 4000000 in
set_option maxRecDepth 100000 in
theorem y_a48 {p : Program} {e : Env} {s : State} {m : MethodId} {below : List Frame} {meth : Method} {c : Code} (l : Launch) (hst : l.stackTraces = false) {b L : Nat} {xs : Nat → Int32} (hx : p.tables.exec = Jvm.exec) (hb : c.code = code) (hml : c.maxLocals = 9) (hown : s.vm.findClass RL = some m.cls) (hts : ∀ w ∈ lw_tbl, w.before #[Value.ref b] s = true) (hX0 : va_X b L xs s s.heap) (hbl : b < s.heap.size) (hX : xT (fun q => s.heap.size ≤ q) s) (hN : nC s) (hTS : sAll s.heap.size s) {D : va_G} {cI cJ cZ cMic cSrc cSt cAI cAJ cD : ClassId} (hK : va_K D vwCl (CT cI cJ cZ cMic cSrc cSt cAI cAJ ++ [(cD, .double)]) s) {Q : State → Prop} {i j : Nat} (hi : i + 6 ≤ L) (hL : L ≤ 3072) (hj : j < 512) {aj ae : Nat} {ad am : Nat → Nat} {T : AT} {Sm : MS} {f : Nat → Int64} {g : Nat → UInt64} {ls : Array Slot} {H : Heap} {locs : List Loc} (hV : IV aR0 1586 aK1 aK2 T) (hrc : RC T) (hJ : JJ Sm) (G : gL cI cJ cZ cMic cSrc cSt cAI cAJ D ad (fun q => s.heap.size ≤ q) s.heap H locs T (oJ aj cJ f :: oD ae cD g :: MW cI cJ cZ am Sm)) (hl : lv_has ls 9 [(5, .int (nI i)), (4, .ref ae), (3, .ref aj), (2, .ref (am 0)), (1, .ref (ad 0)), (0, .ref b)]) (kk : ∀ {k1 : Nat} {r1 : Int32} {T1 : AT} {r2 : Int32} {S1 : MS} (ad2 : Nat → Nat) (f1 : Nat → Int64) (g1 : Nat → UInt64) (H1 : Heap) (locs1 : List Loc) (ls1 : Array Slot), g_X11_mapByte T 0 (xs (i + 1)) = some (k1, r1, T1) → fr_mapByte Sm (xs (i + 1)) = some (r2, S1) → ad2 0 = ad 0 → IV aR0 1586 aK1 aK2 T1 → RC T1 → JJ S1 → gL cI cJ cZ cMic cSrc cSt cAI cAJ D ad2 (fun q => s.heap.size ≤ q) s.heap H1 locs1 T1 (oJ aj cJ f1 :: oD ae cD g1 :: MW cI cJ cZ am S1) → lv_has ls1 9 [(5, .int (nI i)), (4, .ref ae), (3, .ref aj), (2, .ref (am 0)), (1, .ref (ad2 0)), (0, .ref b)] → W p l e room_1 s m #[Value.ref b] below meth c H1 locs1 (19 + T1.1 + (j + 1)) (38467 + sg T1 + 6 * (j + 1)) Q (F0 m 2439 ls1 [])) : W p l e room_1 s m #[Value.ref b] below meth c H locs (19 + T.1 + j) (38467 + sg T + 6 * j) Q (F0 m 1878 ls []) := by
  have E : cE p c cL_law s m #[Value.ref b] lw_tbl D RL (CT cI cJ cZ cMic cSrc cSt cAI cAJ ++ [(cD, .double)]) := ⟨hx, hb, hts, hown, hK⟩
  have hA : ∀ q : Nat, s.heap.size ≤ q → s.heap.size ≤ q := fun _ h => h
  have h0T : 0 < T.1 := Nat.lt_of_lt_of_le (by decide) hV.1.2.2
  have h0s : T.2.1 0 = (11, 0) := hV.2.1 0 ⟨by decide, by decide +kernel, by decide +kernel⟩
  refine lv_aload_n hx hb dL_law_1878 rfl (lv_at hl 4 rfl) ?_
  refine lv_aload_n hx hb dL_law_1879 rfl (lv_at hl 5 rfl) ?_
  refine lv_iload hx hb dL_law_1880 (lv_at hl 0 rfl) ?_
  refine lv_iconst (v := 1) hx hb dL_law_1882 (by decide) ?_
  refine lv_iadd hx hb dL_law_1883 ?_
  refine lv_to (y := nI (i + 1)) (nI_add i 1) ?_
  refine va_sld hx hb hX0 hbl (Nat.not_le.mpr hbl) G.2.2 (i := nI (i + 1)) (vp_in_nI (n := i + 1) (N := L) (by omega) (by omega)) dL_law_1884 ?_
  refine lv_to (y := xs (i + 1)) (congrArg xs (nI_clamp (by omega))) ?_
  refine lv_aload_n hx hb dL_law_1885 rfl (lv_at hl 2 rfl) ?_
  obtain ⟨⟨k1, r1, T1⟩, hg, hc⟩ := cs_X11_mapByte T 0 (xs (i + 1)) hV (by decide +kernel)
  have hV1 : IV aR0 1586 aK1 aK2 T1 := by rw [show T1 = T from hc.1]; exact hV
  have hg1 := (gl_sp (s_X11_mapByte hg))
  have hg2 := sg_le hg1
  have hg3 := hg1.1
  have hk := hV1.2.2.2.2.2.2
  have hrc1 := hg1.2.2 hrc
  have hr0 := a_room
  refine l_v (h0 := s.heap.size) (As := [.ref (ad 0), .int (xs (i + 1)), .ref aj]) (rest := []) E G hA hX hN (fun _ h => h) hTS hml (v_mapByte l hst D s.heap.size ad T 0 (xs (i + 1)) aj f hg hrc h0T h0s) (vx_cwSW 3 hts (glA (L := [Cond.methodLink RL 357 yL_mapByte, Cond.static yL_mapByte, Cond.initialized RL]) (gl_in [(7, 59), (7, 60), (1, 0)] (by decide +kernel) (by decide +kernel)) ⟨(t_of [Cond.codeWith yL_mapByte cL_mapByte 4 (some .int) [(0, 9, 12, 13)]] [(7, 61)] (by decide +kernel) _ List.mem_cons_self), List.all_eq_true.mp (by decide +kernel : [Cond.codeWith yL_mapByte cL_mapByte 4 (some .int) [(0, 9, 12, 13)]].all goodWord = true) _ List.mem_cons_self⟩) rfl rfl rfl (by decide +kernel) ⟨Nat.le_of_ble_eq_true rfl, Nat.le_of_ble_eq_true rfl⟩) rfl hl.1 rfl (lv_room (Nat.le_of_ble_eq_true rfl)) dL_law_1886 ⟨by show _ ≤ 601024; omega, by show _ ≤ 7293034; omega⟩ ?_
  intro ad2 H locs had G
  rw [← had 0 h0T] at hl
  refine lv_istore (lv' := [(6, .int (vck 0 1 0 k1)), (5, .int (nI i)), (4, .ref ae), (3, .ref aj), (2, .ref (am 0)), (1, .ref (ad2 0)), (0, .ref b)]) hx hb dL_law_1889 hl (by decide) rfl (fun ls hl => ?_)
  refine lv_aload_n hx hb dL_law_1891 rfl (lv_at hl 4 rfl) ?_
  refine lv_aload_n hx hb dL_law_1892 rfl (lv_at hl 6 rfl) ?_
  refine lv_iload hx hb dL_law_1893 (lv_at hl 1 rfl) ?_
  refine lv_iconst (v := 1) hx hb dL_law_1895 (by decide) ?_
  refine lv_iadd hx hb dL_law_1896 ?_
  refine lv_to (y := nI (i + 1)) (nI_add i 1) ?_
  refine va_sld hx hb hX0 hbl (Nat.not_le.mpr hbl) G.2.2 (i := nI (i + 1)) (vp_in_nI (n := i + 1) (N := L) (by omega) (by omega)) dL_law_1897 ?_
  refine lv_to (y := xs (i + 1)) (congrArg xs (nI_clamp (by omega))) ?_
  obtain ⟨⟨r2, S1⟩, hf, hj⟩ := sj_mapByte Sm (xs (i + 1)) hJ
  have hJ1 : JJ S1 := hj
  refine y_mi (As := [.int (xs (i + 1))]) (rest := []) E G hA hX.2.2.2.2 hml (tr_mapByte l D cI cJ cZ am Sm (xs (i + 1)) hf) (cwV 1 hts (glM (L := [Cond.methodLink RL 359 yX12_mapByte, Cond.instanceMethod yX12_mapByte, Cond.selects RX12 yX12_mapByte yX12_mapByte, Cond.initialized RX12]) (gl_in [(10, 129), (10, 130), (10, 131), (1, 14)] (by decide +kernel) (by decide +kernel)) ⟨(t_of [Cond.code yX12_mapByte cX12_mapByte 2 (some .int)] [(10, 132)] (by decide +kernel) _ List.mem_cons_self), List.all_eq_true.mp (by decide +kernel : [Cond.code yX12_mapByte cX12_mapByte 2 (some .int)].all goodWord = true) _ List.mem_cons_self⟩) rfl rfl rfl (by decide +kernel) ⟨Nat.le_of_ble_eq_true rfl, Nat.le_of_ble_eq_true rfl⟩) rfl hl.1 rfl (lv_room (Nat.le_of_ble_eq_true rfl)) dL_law_1898 ⟨by show _ ≤ 601024; omega, by show _ ≤ 7293034; omega⟩ (fun H locs G => ?_)
  refine lv_istore (lv' := [(7, .int r2), (6, .int (vck 0 1 0 k1)), (5, .int (nI i)), (4, .ref ae), (3, .ref aj), (2, .ref (am 0)), (1, .ref (ad2 0)), (0, .ref b)]) hx hb dL_law_1901 hl (by decide) rfl (fun ls hl => ?_)
  refine lv_goto (tgt := 2439) hx hb dL_law_1903 (by decide) ?_
  have hl := lv_sub hl [2, 3, 4, 5, 6, 7] rfl
  refine W.widen (k := 19 + T1.1 + (j + 1)) (n := 38467 + sg T1 + 6 * (j + 1)) (by omega) (by omega) ?_
  exact kk ad2 (vfJ k1 f r1.toInt64) g H locs ls hg hf (had 0 h0T) hV1 hrc1 hJ1 G hl
set_option maxHeartbeats 4000000 in
set_option maxRecDepth 100000 in
theorem y_a49 {p : Program} {e : Env} {s : State} {m : MethodId} {below : List Frame} {meth : Method} {c : Code} (l : Launch) (hst : l.stackTraces = false) {b L : Nat} {xs : Nat → Int32} (hx : p.tables.exec = Jvm.exec) (hb : c.code = code) (hml : c.maxLocals = 9) (hown : s.vm.findClass RL = some m.cls) (hts : ∀ w ∈ lw_tbl, w.before #[Value.ref b] s = true) (hX0 : va_X b L xs s s.heap) (hbl : b < s.heap.size) (hX : xT (fun q => s.heap.size ≤ q) s) (hN : nC s) (hTS : sAll s.heap.size s) {D : va_G} {cI cJ cZ cMic cSrc cSt cAI cAJ cD : ClassId} (hK : va_K D vwCl (CT cI cJ cZ cMic cSrc cSt cAI cAJ ++ [(cD, .double)]) s) {Q : State → Prop} {i j : Nat} (hi : i + 6 ≤ L) (hL : L ≤ 3072) (hj : j < 512) {aj ae : Nat} {ad am : Nat → Nat} {T : AT} {Sm : MS} {f : Nat → Int64} {g : Nat → UInt64} {ls : Array Slot} {H : Heap} {locs : List Loc} (hV : IV aR0 1586 aK1 aK2 T) (hrc : RC T) (hJ : JJ Sm) (G : gL cI cJ cZ cMic cSrc cSt cAI cAJ D ad (fun q => s.heap.size ≤ q) s.heap H locs T (oJ aj cJ f :: oD ae cD g :: MW cI cJ cZ am Sm)) (hl : lv_has ls 9 [(5, .int (nI i)), (4, .ref ae), (3, .ref aj), (2, .ref (am 0)), (1, .ref (ad 0)), (0, .ref b)]) (kk : ∀ {k1 : Nat} {r1 : Int32} {T1 : AT} {r2 : Int32} {S1 : MS} (ad2 : Nat → Nat) (f1 : Nat → Int64) (g1 : Nat → UInt64) (H1 : Heap) (locs1 : List Loc) (ls1 : Array Slot), g_X11_pointBest T 0 (xs (i + 1)) (xs (i + 2)) = some (k1, r1, T1) → fr_pointBest Sm (xs (i + 1)) (xs (i + 2)) = some (r2, S1) → ad2 0 = ad 0 → IV aR0 1586 aK1 aK2 T1 → RC T1 → JJ S1 → gL cI cJ cZ cMic cSrc cSt cAI cAJ D ad2 (fun q => s.heap.size ≤ q) s.heap H1 locs1 T1 (oJ aj cJ f1 :: oD ae cD g1 :: MW cI cJ cZ am S1) → lv_has ls1 9 [(5, .int (nI i)), (4, .ref ae), (3, .ref aj), (2, .ref (am 0)), (1, .ref (ad2 0)), (0, .ref b)] → W p l e room_1 s m #[Value.ref b] below meth c H1 locs1 (19 + T1.1 + (j + 1)) (38467 + sg T1 + 6 * (j + 1)) Q (F0 m 2439 ls1 [])) : W p l e room_1 s m #[Value.ref b] below meth c H locs (19 + T.1 + j) (38467 + sg T + 6 * j) Q (F0 m 1906 ls []) := by
  have E : cE p c cL_law s m #[Value.ref b] lw_tbl D RL (CT cI cJ cZ cMic cSrc cSt cAI cAJ ++ [(cD, .double)]) := ⟨hx, hb, hts, hown, hK⟩
  have hA : ∀ q : Nat, s.heap.size ≤ q → s.heap.size ≤ q := fun _ h => h
  have h0T : 0 < T.1 := Nat.lt_of_lt_of_le (by decide) hV.1.2.2
  have h0s : T.2.1 0 = (11, 0) := hV.2.1 0 ⟨by decide, by decide +kernel, by decide +kernel⟩
  refine lv_aload_n hx hb dL_law_1906 rfl (lv_at hl 4 rfl) ?_
  refine lv_aload_n hx hb dL_law_1907 rfl (lv_at hl 5 rfl) ?_
  refine lv_iload hx hb dL_law_1908 (lv_at hl 0 rfl) ?_
  refine lv_iconst (v := 1) hx hb dL_law_1910 (by decide) ?_
  refine lv_iadd hx hb dL_law_1911 ?_
  refine lv_to (y := nI (i + 1)) (nI_add i 1) ?_
  refine va_sld hx hb hX0 hbl (Nat.not_le.mpr hbl) G.2.2 (i := nI (i + 1)) (vp_in_nI (n := i + 1) (N := L) (by omega) (by omega)) dL_law_1912 ?_
  refine lv_to (y := xs (i + 1)) (congrArg xs (nI_clamp (by omega))) ?_
  refine lv_aload_n hx hb dL_law_1913 rfl (lv_at hl 5 rfl) ?_
  refine lv_iload hx hb dL_law_1914 (lv_at hl 0 rfl) ?_
  refine lv_iconst (v := 2) hx hb dL_law_1916 (by decide) ?_
  refine lv_iadd hx hb dL_law_1917 ?_
  refine lv_to (y := nI (i + 2)) (nI_add i 2) ?_
  refine va_sld hx hb hX0 hbl (Nat.not_le.mpr hbl) G.2.2 (i := nI (i + 2)) (vp_in_nI (n := i + 2) (N := L) (by omega) (by omega)) dL_law_1918 ?_
  refine lv_to (y := xs (i + 2)) (congrArg xs (nI_clamp (by omega))) ?_
  refine lv_aload_n hx hb dL_law_1919 rfl (lv_at hl 2 rfl) ?_
  obtain ⟨⟨k1, r1, T1⟩, hg, hc⟩ := cs_X11_pointBest T 0 (xs (i + 1)) (xs (i + 2)) hV (by decide +kernel)
  have hV1 : IV aR0 1586 aK1 aK2 T1 := hc.1.1
  have hg1 := s_X11_pointBest hg
  have hg2 := sg_le hg1
  have hg3 := hg1.1
  have hk := hV1.2.2.2.2.2.2
  have hrc1 := hg1.2.2 hrc
  have hr0 := a_room
  refine l_v (h0 := s.heap.size) (As := [.ref (ad 0), .int (xs (i + 1)), .int (xs (i + 2)), .ref aj]) (rest := []) E G hA hX hN (fun _ h => h) hTS hml (v_pointBest l hst D s.heap.size ad T 0 (xs (i + 1)) (xs (i + 2)) aj f hg hrc h0T h0s) (vx_cwSW 4 hts (glA (L := [Cond.methodLink RL 360 yL_pointBest, Cond.static yL_pointBest, Cond.initialized RL]) (gl_in [(7, 66), (7, 67), (1, 0)] (by decide +kernel) (by decide +kernel)) ⟨(t_of [Cond.codeWith yL_pointBest cL_pointBest 5 (some .int) [(0, 10, 13, 21), (0, 10, 17, 13), (0, 10, 21, 15)]] [(7, 68)] (by decide +kernel) _ List.mem_cons_self), List.all_eq_true.mp (by decide +kernel : [Cond.codeWith yL_pointBest cL_pointBest 5 (some .int) [(0, 10, 13, 21), (0, 10, 17, 13), (0, 10, 21, 15)]].all goodWord = true) _ List.mem_cons_self⟩) rfl rfl rfl (by decide +kernel) ⟨Nat.le_of_ble_eq_true rfl, Nat.le_of_ble_eq_true rfl⟩) rfl hl.1 rfl (lv_room (Nat.le_of_ble_eq_true rfl)) dL_law_1920 ⟨by show _ ≤ 601024; omega, by show _ ≤ 7293034; omega⟩ ?_
  intro ad2 H locs had G
  rw [← had 0 h0T] at hl
  refine lv_istore (lv' := [(6, .int (vck 1 2 3 k1)), (5, .int (nI i)), (4, .ref ae), (3, .ref aj), (2, .ref (am 0)), (1, .ref (ad2 0)), (0, .ref b)]) hx hb dL_law_1923 hl (by decide) rfl (fun ls hl => ?_)
  refine lv_aload_n hx hb dL_law_1925 rfl (lv_at hl 4 rfl) ?_
  refine lv_aload_n hx hb dL_law_1926 rfl (lv_at hl 6 rfl) ?_
  refine lv_iload hx hb dL_law_1927 (lv_at hl 1 rfl) ?_
  refine lv_iconst (v := 1) hx hb dL_law_1929 (by decide) ?_
  refine lv_iadd hx hb dL_law_1930 ?_
  refine lv_to (y := nI (i + 1)) (nI_add i 1) ?_
  refine va_sld hx hb hX0 hbl (Nat.not_le.mpr hbl) G.2.2 (i := nI (i + 1)) (vp_in_nI (n := i + 1) (N := L) (by omega) (by omega)) dL_law_1931 ?_
  refine lv_to (y := xs (i + 1)) (congrArg xs (nI_clamp (by omega))) ?_
  refine lv_aload_n hx hb dL_law_1932 rfl (lv_at hl 6 rfl) ?_
  refine lv_iload hx hb dL_law_1933 (lv_at hl 1 rfl) ?_
  refine lv_iconst (v := 2) hx hb dL_law_1935 (by decide) ?_
  refine lv_iadd hx hb dL_law_1936 ?_
  refine lv_to (y := nI (i + 2)) (nI_add i 2) ?_
  refine va_sld hx hb hX0 hbl (Nat.not_le.mpr hbl) G.2.2 (i := nI (i + 2)) (vp_in_nI (n := i + 2) (N := L) (by omega) (by omega)) dL_law_1937 ?_
  refine lv_to (y := xs (i + 2)) (congrArg xs (nI_clamp (by omega))) ?_
  obtain ⟨⟨r2, S1⟩, hf, hj⟩ := sj_pointBest Sm (xs (i + 1)) (xs (i + 2)) hJ
  have hJ1 : JJ S1 := hj
  refine y_mi (As := [.int (xs (i + 1)), .int (xs (i + 2))]) (rest := []) E G hA hX.2.2.2.2 hml (tr_pointBest l D cI cJ cZ am Sm (xs (i + 1)) (xs (i + 2)) hf) (cwV 2 hts (glM (L := [Cond.methodLink RL 362 yX12_pointBest, Cond.instanceMethod yX12_pointBest, Cond.selects RX12 yX12_pointBest yX12_pointBest, Cond.initialized RX12]) (gl_in [(10, 133), (10, 134), (10, 135), (1, 14)] (by decide +kernel) (by decide +kernel)) ⟨(t_of [Cond.code yX12_pointBest cX12_pointBest 3 (some .int)] [(10, 136)] (by decide +kernel) _ List.mem_cons_self), List.all_eq_true.mp (by decide +kernel : [Cond.code yX12_pointBest cX12_pointBest 3 (some .int)].all goodWord = true) _ List.mem_cons_self⟩) rfl rfl rfl (by decide +kernel) ⟨Nat.le_of_ble_eq_true rfl, Nat.le_of_ble_eq_true rfl⟩) rfl hl.1 rfl (lv_room (Nat.le_of_ble_eq_true rfl)) dL_law_1938 ⟨by show _ ≤ 601024; omega, by show _ ≤ 7293034; omega⟩ (fun H locs G => ?_)
  refine lv_istore (lv' := [(7, .int r2), (6, .int (vck 1 2 3 k1)), (5, .int (nI i)), (4, .ref ae), (3, .ref aj), (2, .ref (am 0)), (1, .ref (ad2 0)), (0, .ref b)]) hx hb dL_law_1941 hl (by decide) rfl (fun ls hl => ?_)
  refine lv_goto (tgt := 2439) hx hb dL_law_1943 (by decide) ?_
  have hl := lv_sub hl [2, 3, 4, 5, 6, 7] rfl
  refine W.widen (k := 19 + T1.1 + (j + 1)) (n := 38467 + sg T1 + 6 * (j + 1)) (by omega) (by omega) ?_
  exact kk ad2 (vfJ k1 f r1.toInt64) g H locs ls hg hf (had 0 h0T) hV1 hrc1 hJ1 G hl
set_option maxHeartbeats 4000000 in
set_option maxRecDepth 100000 in
theorem y_a50 {p : Program} {e : Env} {s : State} {m : MethodId} {below : List Frame} {meth : Method} {c : Code} (l : Launch) (hst : l.stackTraces = false) {b L : Nat} {xs : Nat → Int32} (hx : p.tables.exec = Jvm.exec) (hb : c.code = code) (hml : c.maxLocals = 9) (hown : s.vm.findClass RL = some m.cls) (hts : ∀ w ∈ lw_tbl, w.before #[Value.ref b] s = true) (hX0 : va_X b L xs s s.heap) (hbl : b < s.heap.size) (hX : xT (fun q => s.heap.size ≤ q) s) (hN : nC s) (hTS : sAll s.heap.size s) {D : va_G} {cI cJ cZ cMic cSrc cSt cAI cAJ cD : ClassId} (hK : va_K D vwCl (CT cI cJ cZ cMic cSrc cSt cAI cAJ ++ [(cD, .double)]) s) {Q : State → Prop} {i j : Nat} (hi : i + 6 ≤ L) (hL : L ≤ 3072) (hj : j < 512) {aj ae : Nat} {ad am : Nat → Nat} {T : AT} {Sm : MS} {f : Nat → Int64} {g : Nat → UInt64} {ls : Array Slot} {H : Heap} {locs : List Loc} (hV : IV aR0 1586 aK1 aK2 T) (hrc : RC T) (hJ : JJ Sm) (G : gL cI cJ cZ cMic cSrc cSt cAI cAJ D ad (fun q => s.heap.size ≤ q) s.heap H locs T (oJ aj cJ f :: oD ae cD g :: MW cI cJ cZ am Sm)) (hl : lv_has ls 9 [(5, .int (nI i)), (4, .ref ae), (3, .ref aj), (2, .ref (am 0)), (1, .ref (ad 0)), (0, .ref b)]) (kk : ∀ {k1 : Nat} {r1 : Int64} {T1 : AT} {r2 : Int64} {S1 : MS} (ad2 : Nat → Nat) (f1 : Nat → Int64) (g1 : Nat → UInt64) (H1 : Heap) (locs1 : List Loc) (ls1 : Array Slot), g_X11_pointPower T 0 (xs (i + 1)) (xs (i + 2)) (xs (i + 3)) = some (k1, r1, T1) → fr_pointPower Sm (xs (i + 1)) (xs (i + 2)) (xs (i + 3)) = some (r2, S1) → ad2 0 = ad 0 → IV aR0 1586 aK1 aK2 T1 → RC T1 → JJ S1 → gL cI cJ cZ cMic cSrc cSt cAI cAJ D ad2 (fun q => s.heap.size ≤ q) s.heap H1 locs1 T1 (oJ aj cJ f1 :: oD ae cD g1 :: MW cI cJ cZ am S1) → lv_has ls1 9 [(5, .int (nI i)), (4, .ref ae), (3, .ref aj), (2, .ref (am 0)), (1, .ref (ad2 0)), (0, .ref b)] → W p l e room_1 s m #[Value.ref b] below meth c H1 locs1 (19 + T1.1 + (j + 1)) (38467 + sg T1 + 6 * (j + 1)) Q (F0 m 2439 ls1 [])) : W p l e room_1 s m #[Value.ref b] below meth c H locs (19 + T.1 + j) (38467 + sg T + 6 * j) Q (F0 m 1946 ls []) := by
  have E : cE p c cL_law s m #[Value.ref b] lw_tbl D RL (CT cI cJ cZ cMic cSrc cSt cAI cAJ ++ [(cD, .double)]) := ⟨hx, hb, hts, hown, hK⟩
  have hA : ∀ q : Nat, s.heap.size ≤ q → s.heap.size ≤ q := fun _ h => h
  have h0T : 0 < T.1 := Nat.lt_of_lt_of_le (by decide) hV.1.2.2
  have h0s : T.2.1 0 = (11, 0) := hV.2.1 0 ⟨by decide, by decide +kernel, by decide +kernel⟩
  refine lv_aload_n hx hb dL_law_1946 rfl (lv_at hl 4 rfl) ?_
  refine lv_aload_n hx hb dL_law_1947 rfl (lv_at hl 5 rfl) ?_
  refine lv_iload hx hb dL_law_1948 (lv_at hl 0 rfl) ?_
  refine lv_iconst (v := 1) hx hb dL_law_1950 (by decide) ?_
  refine lv_iadd hx hb dL_law_1951 ?_
  refine lv_to (y := nI (i + 1)) (nI_add i 1) ?_
  refine va_sld hx hb hX0 hbl (Nat.not_le.mpr hbl) G.2.2 (i := nI (i + 1)) (vp_in_nI (n := i + 1) (N := L) (by omega) (by omega)) dL_law_1952 ?_
  refine lv_to (y := xs (i + 1)) (congrArg xs (nI_clamp (by omega))) ?_
  refine lv_aload_n hx hb dL_law_1953 rfl (lv_at hl 5 rfl) ?_
  refine lv_iload hx hb dL_law_1954 (lv_at hl 0 rfl) ?_
  refine lv_iconst (v := 2) hx hb dL_law_1956 (by decide) ?_
  refine lv_iadd hx hb dL_law_1957 ?_
  refine lv_to (y := nI (i + 2)) (nI_add i 2) ?_
  refine va_sld hx hb hX0 hbl (Nat.not_le.mpr hbl) G.2.2 (i := nI (i + 2)) (vp_in_nI (n := i + 2) (N := L) (by omega) (by omega)) dL_law_1958 ?_
  refine lv_to (y := xs (i + 2)) (congrArg xs (nI_clamp (by omega))) ?_
  refine lv_aload_n hx hb dL_law_1959 rfl (lv_at hl 5 rfl) ?_
  refine lv_iload hx hb dL_law_1960 (lv_at hl 0 rfl) ?_
  refine lv_iconst (v := 3) hx hb dL_law_1962 (by decide) ?_
  refine lv_iadd hx hb dL_law_1963 ?_
  refine lv_to (y := nI (i + 3)) (nI_add i 3) ?_
  refine va_sld hx hb hX0 hbl (Nat.not_le.mpr hbl) G.2.2 (i := nI (i + 3)) (vp_in_nI (n := i + 3) (N := L) (by omega) (by omega)) dL_law_1964 ?_
  refine lv_to (y := xs (i + 3)) (congrArg xs (nI_clamp (by omega))) ?_
  refine lv_aload_n hx hb dL_law_1965 rfl (lv_at hl 2 rfl) ?_
  obtain ⟨⟨k1, r1, T1⟩, hg, hc⟩ := cs_X11_pointPower T 0 (xs (i + 1)) (xs (i + 2)) (xs (i + 3)) hV (by decide +kernel)
  have hV1 : IV aR0 1586 aK1 aK2 T1 := hc.1.1
  have hg1 := s_X11_pointPower hg
  have hg2 := sg_le hg1
  have hg3 := hg1.1
  have hk := hV1.2.2.2.2.2.2
  have hrc1 := hg1.2.2 hrc
  have hr0 := a_room
  refine l_v (h0 := s.heap.size) (As := [.ref (ad 0), .int (xs (i + 1)), .int (xs (i + 2)), .int (xs (i + 3)), .ref aj]) (rest := []) E G hA hX hN (fun _ h => h) hTS hml (v_pointPower l hst D s.heap.size ad T 0 (xs (i + 1)) (xs (i + 2)) (xs (i + 3)) aj f hg hrc h0T h0s) (vx_cwSW 5 hts (glA (L := [Cond.methodLink RL 363 yL_pointPower, Cond.static yL_pointPower, Cond.initialized RL]) (gl_in [(7, 99), (7, 100), (1, 0)] (by decide +kernel) (by decide +kernel)) ⟨(t_of [Cond.codeWith yL_pointPower cL_pointPower 6 (some .int) [(0, 11, 14, 21), (0, 11, 18, 13), (0, 11, 22, 15)]] [(7, 101)] (by decide +kernel) _ List.mem_cons_self), List.all_eq_true.mp (by decide +kernel : [Cond.codeWith yL_pointPower cL_pointPower 6 (some .int) [(0, 11, 14, 21), (0, 11, 18, 13), (0, 11, 22, 15)]].all goodWord = true) _ List.mem_cons_self⟩) rfl rfl rfl (by decide +kernel) ⟨Nat.le_of_ble_eq_true rfl, Nat.le_of_ble_eq_true rfl⟩) rfl hl.1 rfl (lv_room (Nat.le_of_ble_eq_true rfl)) dL_law_1966 ⟨by show _ ≤ 601024; omega, by show _ ≤ 7293034; omega⟩ ?_
  intro ad2 H locs had G
  rw [← had 0 h0T] at hl
  refine lv_istore (lv' := [(6, .int (vck 1 2 3 k1)), (5, .int (nI i)), (4, .ref ae), (3, .ref aj), (2, .ref (am 0)), (1, .ref (ad2 0)), (0, .ref b)]) hx hb dL_law_1969 hl (by decide) rfl (fun ls hl => ?_)
  refine lv_aload_n hx hb dL_law_1971 rfl (lv_at hl 4 rfl) ?_
  refine lv_aload_n hx hb dL_law_1972 rfl (lv_at hl 6 rfl) ?_
  refine lv_iload hx hb dL_law_1973 (lv_at hl 1 rfl) ?_
  refine lv_iconst (v := 1) hx hb dL_law_1975 (by decide) ?_
  refine lv_iadd hx hb dL_law_1976 ?_
  refine lv_to (y := nI (i + 1)) (nI_add i 1) ?_
  refine va_sld hx hb hX0 hbl (Nat.not_le.mpr hbl) G.2.2 (i := nI (i + 1)) (vp_in_nI (n := i + 1) (N := L) (by omega) (by omega)) dL_law_1977 ?_
  refine lv_to (y := xs (i + 1)) (congrArg xs (nI_clamp (by omega))) ?_
  refine lv_aload_n hx hb dL_law_1978 rfl (lv_at hl 6 rfl) ?_
  refine lv_iload hx hb dL_law_1979 (lv_at hl 1 rfl) ?_
  refine lv_iconst (v := 2) hx hb dL_law_1981 (by decide) ?_
  refine lv_iadd hx hb dL_law_1982 ?_
  refine lv_to (y := nI (i + 2)) (nI_add i 2) ?_
  refine va_sld hx hb hX0 hbl (Nat.not_le.mpr hbl) G.2.2 (i := nI (i + 2)) (vp_in_nI (n := i + 2) (N := L) (by omega) (by omega)) dL_law_1983 ?_
  refine lv_to (y := xs (i + 2)) (congrArg xs (nI_clamp (by omega))) ?_
  refine lv_aload_n hx hb dL_law_1984 rfl (lv_at hl 6 rfl) ?_
  refine lv_iload hx hb dL_law_1985 (lv_at hl 1 rfl) ?_
  refine lv_iconst (v := 3) hx hb dL_law_1987 (by decide) ?_
  refine lv_iadd hx hb dL_law_1988 ?_
  refine lv_to (y := nI (i + 3)) (nI_add i 3) ?_
  refine va_sld hx hb hX0 hbl (Nat.not_le.mpr hbl) G.2.2 (i := nI (i + 3)) (vp_in_nI (n := i + 3) (N := L) (by omega) (by omega)) dL_law_1989 ?_
  refine lv_to (y := xs (i + 3)) (congrArg xs (nI_clamp (by omega))) ?_
  obtain ⟨⟨r2, S1⟩, hf, hj⟩ := sj_pointPower Sm (xs (i + 1)) (xs (i + 2)) (xs (i + 3)) hJ
  have hJ1 : JJ S1 := hj
  refine y_ml (As := [.int (xs (i + 1)), .int (xs (i + 2)), .int (xs (i + 3))]) (rest := []) E G hA hX.2.2.2.2 hml (tr_pointPower l D cI cJ cZ am Sm (xs (i + 1)) (xs (i + 2)) (xs (i + 3)) hf) (cwV 3 hts (glM (L := [Cond.methodLink RL 365 yX12_pointPower, Cond.instanceMethod yX12_pointPower, Cond.selects RX12 yX12_pointPower yX12_pointPower, Cond.initialized RX12]) (gl_in [(10, 141), (10, 142), (10, 143), (1, 14)] (by decide +kernel) (by decide +kernel)) ⟨(t_of [Cond.code yX12_pointPower cX12_pointPower 4 (some .long)] [(10, 144)] (by decide +kernel) _ List.mem_cons_self), List.all_eq_true.mp (by decide +kernel : [Cond.code yX12_pointPower cX12_pointPower 4 (some .long)].all goodWord = true) _ List.mem_cons_self⟩) rfl rfl rfl (by decide +kernel) ⟨Nat.le_of_ble_eq_true rfl, Nat.le_of_ble_eq_true rfl⟩) rfl hl.1 rfl (lv_room (Nat.le_of_ble_eq_true rfl)) dL_law_1990 ⟨by show _ ≤ 601024; omega, by show _ ≤ 7293034; omega⟩ (fun H locs G => ?_)
  refine lv_lstore (lv' := [(7, .long r2), (6, .int (vck 1 2 3 k1)), (5, .int (nI i)), (4, .ref ae), (3, .ref aj), (2, .ref (am 0)), (1, .ref (ad2 0)), (0, .ref b)]) hx hb dL_law_1993 hl (by decide) rfl (fun ls hl => ?_)
  refine lv_goto (tgt := 2439) hx hb dL_law_1995 (by decide) ?_
  have hl := lv_sub hl [2, 3, 4, 5, 6, 7] rfl
  refine W.widen (k := 19 + T1.1 + (j + 1)) (n := 38467 + sg T1 + 6 * (j + 1)) (by omega) (by omega) ?_
  exact kk ad2 (vfJ k1 f r1) g H locs ls hg hf (had 0 h0T) hV1 hrc1 hJ1 G hl
set_option maxHeartbeats 4000000 in
set_option maxRecDepth 100000 in
theorem y_a51 {p : Program} {e : Env} {s : State} {m : MethodId} {below : List Frame} {meth : Method} {c : Code} (l : Launch) (hst : l.stackTraces = false) {b L : Nat} {xs : Nat → Int32} (hx : p.tables.exec = Jvm.exec) (hb : c.code = code) (hml : c.maxLocals = 9) (hown : s.vm.findClass RL = some m.cls) (hts : ∀ w ∈ lw_tbl, w.before #[Value.ref b] s = true) (hX0 : va_X b L xs s s.heap) (hbl : b < s.heap.size) (hX : xT (fun q => s.heap.size ≤ q) s) (hN : nC s) (hTS : sAll s.heap.size s) {D : va_G} {cI cJ cZ cMic cSrc cSt cAI cAJ cD : ClassId} (hK : va_K D vwCl (CT cI cJ cZ cMic cSrc cSt cAI cAJ ++ [(cD, .double)]) s) {Q : State → Prop} {i j : Nat} (hi : i + 6 ≤ L) (hL : L ≤ 3072) (hj : j < 512) {aj ae : Nat} {ad am : Nat → Nat} {T : AT} {Sm : MS} {f : Nat → Int64} {g : Nat → UInt64} {ls : Array Slot} {H : Heap} {locs : List Loc} (hV : IV aR0 1586 aK1 aK2 T) (hrc : RC T) (hJ : JJ Sm) (G : gL cI cJ cZ cMic cSrc cSt cAI cAJ D ad (fun q => s.heap.size ≤ q) s.heap H locs T (oJ aj cJ f :: oD ae cD g :: MW cI cJ cZ am Sm)) (hl : lv_has ls 9 [(5, .int (nI i)), (4, .ref ae), (3, .ref aj), (2, .ref (am 0)), (1, .ref (ad 0)), (0, .ref b)]) (kk : ∀ {k1 : Nat} {r1 : Int32} {T1 : AT} {r2 : Int32} {S1 : MS} (ad2 : Nat → Nat) (f1 : Nat → Int64) (g1 : Nat → UInt64) (H1 : Heap) (locs1 : List Loc) (ls1 : Array Slot), g_X11_bestWithout T 0 (xs (i + 1)) = some (k1, r1, T1) → fr_bestWithout Sm (xs (i + 1)) = some (r2, S1) → ad2 0 = ad 0 → IV aR0 1586 aK1 aK2 T1 → RC T1 → JJ S1 → gL cI cJ cZ cMic cSrc cSt cAI cAJ D ad2 (fun q => s.heap.size ≤ q) s.heap H1 locs1 T1 (oJ aj cJ f1 :: oD ae cD g1 :: MW cI cJ cZ am S1) → lv_has ls1 9 [(5, .int (nI i)), (4, .ref ae), (3, .ref aj), (2, .ref (am 0)), (1, .ref (ad2 0)), (0, .ref b)] → W p l e room_1 s m #[Value.ref b] below meth c H1 locs1 (19 + T1.1 + (j + 1)) (38467 + sg T1 + 6 * (j + 1)) Q (F0 m 2439 ls1 [])) : W p l e room_1 s m #[Value.ref b] below meth c H locs (19 + T.1 + j) (38467 + sg T + 6 * j) Q (F0 m 1998 ls []) := by
  have E : cE p c cL_law s m #[Value.ref b] lw_tbl D RL (CT cI cJ cZ cMic cSrc cSt cAI cAJ ++ [(cD, .double)]) := ⟨hx, hb, hts, hown, hK⟩
  have hA : ∀ q : Nat, s.heap.size ≤ q → s.heap.size ≤ q := fun _ h => h
  have h0T : 0 < T.1 := Nat.lt_of_lt_of_le (by decide) hV.1.2.2
  have h0s : T.2.1 0 = (11, 0) := hV.2.1 0 ⟨by decide, by decide +kernel, by decide +kernel⟩
  refine lv_aload_n hx hb dL_law_1998 rfl (lv_at hl 4 rfl) ?_
  refine lv_aload_n hx hb dL_law_1999 rfl (lv_at hl 5 rfl) ?_
  refine lv_iload hx hb dL_law_2000 (lv_at hl 0 rfl) ?_
  refine lv_iconst (v := 1) hx hb dL_law_2002 (by decide) ?_
  refine lv_iadd hx hb dL_law_2003 ?_
  refine lv_to (y := nI (i + 1)) (nI_add i 1) ?_
  refine va_sld hx hb hX0 hbl (Nat.not_le.mpr hbl) G.2.2 (i := nI (i + 1)) (vp_in_nI (n := i + 1) (N := L) (by omega) (by omega)) dL_law_2004 ?_
  refine lv_to (y := xs (i + 1)) (congrArg xs (nI_clamp (by omega))) ?_
  refine lv_aload_n hx hb dL_law_2005 rfl (lv_at hl 2 rfl) ?_
  obtain ⟨⟨k1, r1, T1⟩, hg, hc⟩ := cs_X11_bestWithout T 0 (xs (i + 1)) hV (by decide +kernel)
  have hV1 : IV aR0 1586 aK1 aK2 T1 := hc.1.1
  have hg1 := s_X11_bestWithout hg
  have hg2 := sg_le hg1
  have hg3 := hg1.1
  have hk := hV1.2.2.2.2.2.2
  have hrc1 := hg1.2.2 hrc
  have hr0 := a_room
  refine l_v (h0 := s.heap.size) (As := [.ref (ad 0), .int (xs (i + 1)), .ref aj]) (rest := []) E G hA hX hN (fun _ h => h) hTS hml (v_bestWithout l hst D s.heap.size ad T 0 (xs (i + 1)) aj f hg hrc h0T h0s) (vx_cwSW 3 hts (glA (L := [Cond.methodLink RL 366 yL_bestWithout, Cond.static yL_bestWithout, Cond.initialized RL]) (gl_in [(7, 106), (7, 107), (1, 0)] (by decide +kernel) (by decide +kernel)) ⟨(t_of [Cond.codeWith yL_bestWithout cL_bestWithout 4 (some .int) [(0, 9, 12, 21), (0, 9, 15, 13)]] [(7, 108)] (by decide +kernel) _ List.mem_cons_self), List.all_eq_true.mp (by decide +kernel : [Cond.codeWith yL_bestWithout cL_bestWithout 4 (some .int) [(0, 9, 12, 21), (0, 9, 15, 13)]].all goodWord = true) _ List.mem_cons_self⟩) rfl rfl rfl (by decide +kernel) ⟨Nat.le_of_ble_eq_true rfl, Nat.le_of_ble_eq_true rfl⟩) rfl hl.1 rfl (lv_room (Nat.le_of_ble_eq_true rfl)) dL_law_2006 ⟨by show _ ≤ 601024; omega, by show _ ≤ 7293034; omega⟩ ?_
  intro ad2 H locs had G
  rw [← had 0 h0T] at hl
  refine lv_istore (lv' := [(6, .int (vck 1 2 0 k1)), (5, .int (nI i)), (4, .ref ae), (3, .ref aj), (2, .ref (am 0)), (1, .ref (ad2 0)), (0, .ref b)]) hx hb dL_law_2009 hl (by decide) rfl (fun ls hl => ?_)
  refine lv_aload_n hx hb dL_law_2011 rfl (lv_at hl 4 rfl) ?_
  refine lv_aload_n hx hb dL_law_2012 rfl (lv_at hl 6 rfl) ?_
  refine lv_iload hx hb dL_law_2013 (lv_at hl 1 rfl) ?_
  refine lv_iconst (v := 1) hx hb dL_law_2015 (by decide) ?_
  refine lv_iadd hx hb dL_law_2016 ?_
  refine lv_to (y := nI (i + 1)) (nI_add i 1) ?_
  refine va_sld hx hb hX0 hbl (Nat.not_le.mpr hbl) G.2.2 (i := nI (i + 1)) (vp_in_nI (n := i + 1) (N := L) (by omega) (by omega)) dL_law_2017 ?_
  refine lv_to (y := xs (i + 1)) (congrArg xs (nI_clamp (by omega))) ?_
  obtain ⟨⟨r2, S1⟩, hf, hj⟩ := sj_bestWithout Sm (xs (i + 1)) hJ
  have hJ1 : JJ S1 := hj
  refine y_mi (As := [.int (xs (i + 1))]) (rest := []) E G hA hX.2.2.2.2 hml (tr_bestWithout l D cI cJ cZ am Sm (xs (i + 1)) hf) (cwV 1 hts (glM (L := [Cond.methodLink RL 368 yX12_bestWithout, Cond.instanceMethod yX12_bestWithout, Cond.selects RX12 yX12_bestWithout yX12_bestWithout, Cond.initialized RX12]) (gl_in [(10, 145), (10, 146), (10, 147), (1, 14)] (by decide +kernel) (by decide +kernel)) ⟨(t_of [Cond.code yX12_bestWithout cX12_bestWithout 2 (some .int)] [(10, 148)] (by decide +kernel) _ List.mem_cons_self), List.all_eq_true.mp (by decide +kernel : [Cond.code yX12_bestWithout cX12_bestWithout 2 (some .int)].all goodWord = true) _ List.mem_cons_self⟩) rfl rfl rfl (by decide +kernel) ⟨Nat.le_of_ble_eq_true rfl, Nat.le_of_ble_eq_true rfl⟩) rfl hl.1 rfl (lv_room (Nat.le_of_ble_eq_true rfl)) dL_law_2018 ⟨by show _ ≤ 601024; omega, by show _ ≤ 7293034; omega⟩ (fun H locs G => ?_)
  refine lv_istore (lv' := [(7, .int r2), (6, .int (vck 1 2 0 k1)), (5, .int (nI i)), (4, .ref ae), (3, .ref aj), (2, .ref (am 0)), (1, .ref (ad2 0)), (0, .ref b)]) hx hb dL_law_2021 hl (by decide) rfl (fun ls hl => ?_)
  refine lv_goto (tgt := 2439) hx hb dL_law_2023 (by decide) ?_
  have hl := lv_sub hl [2, 3, 4, 5, 6, 7] rfl
  refine W.widen (k := 19 + T1.1 + (j + 1)) (n := 38467 + sg T1 + 6 * (j + 1)) (by omega) (by omega) ?_
  exact kk ad2 (vfJ k1 f r1.toInt64) g H locs ls hg hf (had 0 h0T) hV1 hrc1 hJ1 G hl
set_option maxHeartbeats 4000000 in
set_option maxRecDepth 100000 in
theorem y_a52 {p : Program} {e : Env} {s : State} {m : MethodId} {below : List Frame} {meth : Method} {c : Code} (l : Launch) (hst : l.stackTraces = false) {b L : Nat} {xs : Nat → Int32} (hx : p.tables.exec = Jvm.exec) (hb : c.code = code) (hml : c.maxLocals = 9) (hown : s.vm.findClass RL = some m.cls) (hts : ∀ w ∈ lw_tbl, w.before #[Value.ref b] s = true) (hX0 : va_X b L xs s s.heap) (hbl : b < s.heap.size) (hX : xT (fun q => s.heap.size ≤ q) s) (hN : nC s) (hTS : sAll s.heap.size s) {D : va_G} {cI cJ cZ cMic cSrc cSt cAI cAJ cD : ClassId} (hK : va_K D vwCl (CT cI cJ cZ cMic cSrc cSt cAI cAJ ++ [(cD, .double)]) s) {Q : State → Prop} {i j : Nat} (hi : i + 6 ≤ L) (hL : L ≤ 3072) (hj : j < 512) {aj ae : Nat} {ad am : Nat → Nat} {T : AT} {Sm : MS} {f : Nat → Int64} {g : Nat → UInt64} {ls : Array Slot} {H : Heap} {locs : List Loc} (hV : IV aR0 1586 aK1 aK2 T) (hrc : RC T) (hJ : JJ Sm) (G : gL cI cJ cZ cMic cSrc cSt cAI cAJ D ad (fun q => s.heap.size ≤ q) s.heap H locs T (oJ aj cJ f :: oD ae cD g :: MW cI cJ cZ am Sm)) (hl : lv_has ls 9 [(5, .int (nI i)), (4, .ref ae), (3, .ref aj), (2, .ref (am 0)), (1, .ref (ad 0)), (0, .ref b)]) (kk : ∀ {k1 : Nat} {r1 : Int32} {T1 : AT} {r2 : Int32} {S1 : MS} (ad2 : Nat → Nat) (f1 : Nat → Int64) (g1 : Nat → UInt64) (H1 : Heap) (locs1 : List Loc) (ls1 : Array Slot), g_X11_bestIfOff T 0 (xs (i + 1)) = some (k1, r1, T1) → fr_bestIfOff Sm (xs (i + 1)) = some (r2, S1) → ad2 0 = ad 0 → IV aR0 1586 aK1 aK2 T1 → RC T1 → JJ S1 → gL cI cJ cZ cMic cSrc cSt cAI cAJ D ad2 (fun q => s.heap.size ≤ q) s.heap H1 locs1 T1 (oJ aj cJ f1 :: oD ae cD g1 :: MW cI cJ cZ am S1) → lv_has ls1 9 [(5, .int (nI i)), (4, .ref ae), (3, .ref aj), (2, .ref (am 0)), (1, .ref (ad2 0)), (0, .ref b)] → W p l e room_1 s m #[Value.ref b] below meth c H1 locs1 (19 + T1.1 + (j + 1)) (38467 + sg T1 + 6 * (j + 1)) Q (F0 m 2439 ls1 [])) : W p l e room_1 s m #[Value.ref b] below meth c H locs (19 + T.1 + j) (38467 + sg T + 6 * j) Q (F0 m 2026 ls []) := by
  have E : cE p c cL_law s m #[Value.ref b] lw_tbl D RL (CT cI cJ cZ cMic cSrc cSt cAI cAJ ++ [(cD, .double)]) := ⟨hx, hb, hts, hown, hK⟩
  have hA : ∀ q : Nat, s.heap.size ≤ q → s.heap.size ≤ q := fun _ h => h
  have h0T : 0 < T.1 := Nat.lt_of_lt_of_le (by decide) hV.1.2.2
  have h0s : T.2.1 0 = (11, 0) := hV.2.1 0 ⟨by decide, by decide +kernel, by decide +kernel⟩
  refine lv_aload_n hx hb dL_law_2026 rfl (lv_at hl 4 rfl) ?_
  refine lv_aload_n hx hb dL_law_2027 rfl (lv_at hl 5 rfl) ?_
  refine lv_iload hx hb dL_law_2028 (lv_at hl 0 rfl) ?_
  refine lv_iconst (v := 1) hx hb dL_law_2030 (by decide) ?_
  refine lv_iadd hx hb dL_law_2031 ?_
  refine lv_to (y := nI (i + 1)) (nI_add i 1) ?_
  refine va_sld hx hb hX0 hbl (Nat.not_le.mpr hbl) G.2.2 (i := nI (i + 1)) (vp_in_nI (n := i + 1) (N := L) (by omega) (by omega)) dL_law_2032 ?_
  refine lv_to (y := xs (i + 1)) (congrArg xs (nI_clamp (by omega))) ?_
  refine lv_aload_n hx hb dL_law_2033 rfl (lv_at hl 2 rfl) ?_
  obtain ⟨⟨k1, r1, T1⟩, hg, hc⟩ := cs_X11_bestIfOff T 0 (xs (i + 1)) hV (by decide +kernel)
  have hV1 : IV aR0 1586 aK1 aK2 T1 := hc.1.1
  have hg1 := s_X11_bestIfOff hg
  have hg2 := sg_le hg1
  have hg3 := hg1.1
  have hk := hV1.2.2.2.2.2.2
  have hrc1 := hg1.2.2 hrc
  have hr0 := a_room
  refine l_v (h0 := s.heap.size) (As := [.ref (ad 0), .int (xs (i + 1)), .ref aj]) (rest := []) E G hA hX hN (fun _ h => h) hTS hml (v_bestIfOff l hst D s.heap.size ad T 0 (xs (i + 1)) aj f hg hrc h0T h0s) (vx_cwSW 3 hts (glA (L := [Cond.methodLink RL 369 yL_bestIfOff, Cond.static yL_bestIfOff, Cond.initialized RL]) (gl_in [(7, 113), (7, 114), (1, 0)] (by decide +kernel) (by decide +kernel)) ⟨(t_of [Cond.codeWith yL_bestIfOff cL_bestIfOff 4 (some .int) [(0, 9, 12, 21), (0, 9, 15, 13)]] [(7, 115)] (by decide +kernel) _ List.mem_cons_self), List.all_eq_true.mp (by decide +kernel : [Cond.codeWith yL_bestIfOff cL_bestIfOff 4 (some .int) [(0, 9, 12, 21), (0, 9, 15, 13)]].all goodWord = true) _ List.mem_cons_self⟩) rfl rfl rfl (by decide +kernel) ⟨Nat.le_of_ble_eq_true rfl, Nat.le_of_ble_eq_true rfl⟩) rfl hl.1 rfl (lv_room (Nat.le_of_ble_eq_true rfl)) dL_law_2034 ⟨by show _ ≤ 601024; omega, by show _ ≤ 7293034; omega⟩ ?_
  intro ad2 H locs had G
  rw [← had 0 h0T] at hl
  refine lv_istore (lv' := [(6, .int (vck 1 2 0 k1)), (5, .int (nI i)), (4, .ref ae), (3, .ref aj), (2, .ref (am 0)), (1, .ref (ad2 0)), (0, .ref b)]) hx hb dL_law_2037 hl (by decide) rfl (fun ls hl => ?_)
  refine lv_aload_n hx hb dL_law_2039 rfl (lv_at hl 4 rfl) ?_
  refine lv_aload_n hx hb dL_law_2040 rfl (lv_at hl 6 rfl) ?_
  refine lv_iload hx hb dL_law_2041 (lv_at hl 1 rfl) ?_
  refine lv_iconst (v := 1) hx hb dL_law_2043 (by decide) ?_
  refine lv_iadd hx hb dL_law_2044 ?_
  refine lv_to (y := nI (i + 1)) (nI_add i 1) ?_
  refine va_sld hx hb hX0 hbl (Nat.not_le.mpr hbl) G.2.2 (i := nI (i + 1)) (vp_in_nI (n := i + 1) (N := L) (by omega) (by omega)) dL_law_2045 ?_
  refine lv_to (y := xs (i + 1)) (congrArg xs (nI_clamp (by omega))) ?_
  obtain ⟨⟨r2, S1⟩, hf, hj⟩ := sj_bestIfOff Sm (xs (i + 1)) hJ
  have hJ1 : JJ S1 := hj
  refine y_mi (As := [.int (xs (i + 1))]) (rest := []) E G hA hX.2.2.2.2 hml (tr_bestIfOff l D cI cJ cZ am Sm (xs (i + 1)) hf) (cwV 1 hts (glM (L := [Cond.methodLink RL 371 yX12_bestIfOff, Cond.instanceMethod yX12_bestIfOff, Cond.selects RX12 yX12_bestIfOff yX12_bestIfOff, Cond.initialized RX12]) (gl_in [(10, 149), (10, 150), (10, 151), (1, 14)] (by decide +kernel) (by decide +kernel)) ⟨(t_of [Cond.code yX12_bestIfOff cX12_bestIfOff 2 (some .int)] [(10, 152)] (by decide +kernel) _ List.mem_cons_self), List.all_eq_true.mp (by decide +kernel : [Cond.code yX12_bestIfOff cX12_bestIfOff 2 (some .int)].all goodWord = true) _ List.mem_cons_self⟩) rfl rfl rfl (by decide +kernel) ⟨Nat.le_of_ble_eq_true rfl, Nat.le_of_ble_eq_true rfl⟩) rfl hl.1 rfl (lv_room (Nat.le_of_ble_eq_true rfl)) dL_law_2046 ⟨by show _ ≤ 601024; omega, by show _ ≤ 7293034; omega⟩ (fun H locs G => ?_)
  refine lv_istore (lv' := [(7, .int r2), (6, .int (vck 1 2 0 k1)), (5, .int (nI i)), (4, .ref ae), (3, .ref aj), (2, .ref (am 0)), (1, .ref (ad2 0)), (0, .ref b)]) hx hb dL_law_2049 hl (by decide) rfl (fun ls hl => ?_)
  refine lv_goto (tgt := 2439) hx hb dL_law_2051 (by decide) ?_
  have hl := lv_sub hl [2, 3, 4, 5, 6, 7] rfl
  refine W.widen (k := 19 + T1.1 + (j + 1)) (n := 38467 + sg T1 + 6 * (j + 1)) (by omega) (by omega) ?_
  exact kk ad2 (vfJ k1 f r1.toInt64) g H locs ls hg hf (had 0 h0T) hV1 hrc1 hJ1 G hl
set_option maxHeartbeats 4000000 in
set_option maxRecDepth 100000 in
theorem y_a53 {p : Program} {e : Env} {s : State} {m : MethodId} {below : List Frame} {meth : Method} {c : Code} (l : Launch) (hst : l.stackTraces = false) {b L : Nat} {xs : Nat → Int32} (hx : p.tables.exec = Jvm.exec) (hb : c.code = code) (hml : c.maxLocals = 9) (hown : s.vm.findClass RL = some m.cls) (hts : ∀ w ∈ lw_tbl, w.before #[Value.ref b] s = true) (hX0 : va_X b L xs s s.heap) (hbl : b < s.heap.size) (hX : xT (fun q => s.heap.size ≤ q) s) (hN : nC s) (hTS : sAll s.heap.size s) {D : va_G} {cI cJ cZ cMic cSrc cSt cAI cAJ cD : ClassId} (hK : va_K D vwCl (CT cI cJ cZ cMic cSrc cSt cAI cAJ ++ [(cD, .double)]) s) {Q : State → Prop} {i j : Nat} (hi : i + 6 ≤ L) (hL : L ≤ 3072) (hj : j < 512) {aj ae : Nat} {ad am : Nat → Nat} {T : AT} {Sm : MS} {f : Nat → Int64} {g : Nat → UInt64} {ls : Array Slot} {H : Heap} {locs : List Loc} (hV : IV aR0 1586 aK1 aK2 T) (hrc : RC T) (hJ : JJ Sm) (G : gL cI cJ cZ cMic cSrc cSt cAI cAJ D ad (fun q => s.heap.size ≤ q) s.heap H locs T (oJ aj cJ f :: oD ae cD g :: MW cI cJ cZ am Sm)) (hl : lv_has ls 9 [(5, .int (nI i)), (4, .ref ae), (3, .ref aj), (2, .ref (am 0)), (1, .ref (ad 0)), (0, .ref b)]) (kk : ∀ {k1 : Nat} {r1 : Int32} {T1 : AT} {r2 : Int32} {S1 : MS} (ad2 : Nat → Nat) (f1 : Nat → Int64) (g1 : Nat → UInt64) (H1 : Heap) (locs1 : List Loc) (ls1 : Array Slot), g_X11_mute T 0 (xs (i + 1)) (vnz (xs (i + 2))) = some (k1, r1, T1) → fr_mute Sm (xs (i + 1)) (vnz (xs (i + 2))) = some (r2, S1) → ad2 0 = ad 0 → IV aR0 1586 aK1 aK2 T1 → RC T1 → JJ S1 → gL cI cJ cZ cMic cSrc cSt cAI cAJ D ad2 (fun q => s.heap.size ≤ q) s.heap H1 locs1 T1 (oJ aj cJ f1 :: oD ae cD g1 :: MW cI cJ cZ am S1) → lv_has ls1 9 [(5, .int (nI i)), (4, .ref ae), (3, .ref aj), (2, .ref (am 0)), (1, .ref (ad2 0)), (0, .ref b)] → W p l e room_1 s m #[Value.ref b] below meth c H1 locs1 (19 + T1.1 + (j + 1)) (38467 + sg T1 + 6 * (j + 1)) Q (F0 m 2439 ls1 [])) : W p l e room_1 s m #[Value.ref b] below meth c H locs (19 + T.1 + j) (38467 + sg T + 6 * j) Q (F0 m 2054 ls []) := by
  have E : cE p c cL_law s m #[Value.ref b] lw_tbl D RL (CT cI cJ cZ cMic cSrc cSt cAI cAJ ++ [(cD, .double)]) := ⟨hx, hb, hts, hown, hK⟩
  have hA : ∀ q : Nat, s.heap.size ≤ q → s.heap.size ≤ q := fun _ h => h
  have h0T : 0 < T.1 := Nat.lt_of_lt_of_le (by decide) hV.1.2.2
  have h0s : T.2.1 0 = (11, 0) := hV.2.1 0 ⟨by decide, by decide +kernel, by decide +kernel⟩
  refine lv_aload_n hx hb dL_law_2054 rfl (lv_at hl 4 rfl) ?_
  refine lv_aload_n hx hb dL_law_2055 rfl (lv_at hl 5 rfl) ?_
  refine lv_iload hx hb dL_law_2056 (lv_at hl 0 rfl) ?_
  refine lv_iconst (v := 1) hx hb dL_law_2058 (by decide) ?_
  refine lv_iadd hx hb dL_law_2059 ?_
  refine lv_to (y := nI (i + 1)) (nI_add i 1) ?_
  refine va_sld hx hb hX0 hbl (Nat.not_le.mpr hbl) G.2.2 (i := nI (i + 1)) (vp_in_nI (n := i + 1) (N := L) (by omega) (by omega)) dL_law_2060 ?_
  refine lv_to (y := xs (i + 1)) (congrArg xs (nI_clamp (by omega))) ?_
  refine lv_aload_n hx hb dL_law_2061 rfl (lv_at hl 5 rfl) ?_
  refine lv_iload hx hb dL_law_2062 (lv_at hl 0 rfl) ?_
  refine lv_iconst (v := 2) hx hb dL_law_2064 (by decide) ?_
  refine lv_iadd hx hb dL_law_2065 ?_
  refine lv_to (y := nI (i + 2)) (nI_add i 2) ?_
  refine va_sld hx hb hX0 hbl (Nat.not_le.mpr hbl) G.2.2 (i := nI (i + 2)) (vp_in_nI (n := i + 2) (N := L) (by omega) (by omega)) dL_law_2066 ?_
  refine lv_to (y := xs (i + 2)) (congrArg xs (nI_clamp (by omega))) ?_
  have kb : W p l e room_1 s m #[Value.ref b] below meth c H locs (19 + T.1 + j) (38467 + sg T + 6 * j) Q (F0 m 2075 ls [.int (vnz (xs (i + 2))), .int (xs (i + 1)), .ref (ad 0)]) := by
    refine lv_aload_n hx hb dL_law_2075 rfl (lv_at hl 2 rfl) ?_
    obtain ⟨⟨k1, r1, T1⟩, hg, hc⟩ := cs_X11_mute T 0 (xs (i + 1)) (vnz (xs (i + 2))) hV (by decide +kernel) (vnz_r _)
    have hV1 : IV aR0 1586 aK1 aK2 T1 := hc.1.1
    have hg1 := s_X11_mute hg
    have hg2 := sg_le hg1
    have hg3 := hg1.1
    have hk := hV1.2.2.2.2.2.2
    have hrc1 := hg1.2.2 hrc
    have hr0 := a_room
    refine l_v (h0 := s.heap.size) (As := [.ref (ad 0), .int (xs (i + 1)), .int (vnz (xs (i + 2))), .ref aj]) (rest := []) E G hA hX hN (fun _ h => h) hTS hml (v_mute l hst D s.heap.size ad T 0 (xs (i + 1)) (vnz (xs (i + 2))) aj f hg hrc h0T h0s) (vx_cwSW 4 hts (glA (L := [Cond.methodLink RL 372 yL_mute, Cond.static yL_mute, Cond.initialized RL]) (gl_in [(7, 120), (7, 121), (1, 0)] (by decide +kernel) (by decide +kernel)) ⟨(t_of [Cond.codeWith yL_mute cL_mute 5 (some .int) [(0, 17, 20, 21), (0, 17, 24, 13)]] [(7, 122)] (by decide +kernel) _ List.mem_cons_self), List.all_eq_true.mp (by decide +kernel : [Cond.codeWith yL_mute cL_mute 5 (some .int) [(0, 17, 20, 21), (0, 17, 24, 13)]].all goodWord = true) _ List.mem_cons_self⟩) rfl rfl rfl (by decide +kernel) ⟨Nat.le_of_ble_eq_true rfl, Nat.le_of_ble_eq_true rfl⟩) rfl hl.1 rfl (lv_room (Nat.le_of_ble_eq_true rfl)) dL_law_2076 ⟨by show _ ≤ 601024; omega, by show _ ≤ 7293034; omega⟩ ?_
    intro ad2 H locs had G
    rw [← had 0 h0T] at hl
    refine lv_istore (lv' := [(6, .int (vck 1 2 0 k1)), (5, .int (nI i)), (4, .ref ae), (3, .ref aj), (2, .ref (am 0)), (1, .ref (ad2 0)), (0, .ref b)]) hx hb dL_law_2079 hl (by decide) rfl (fun ls hl => ?_)
    refine lv_aload_n hx hb dL_law_2081 rfl (lv_at hl 4 rfl) ?_
    refine lv_aload_n hx hb dL_law_2082 rfl (lv_at hl 6 rfl) ?_
    refine lv_iload hx hb dL_law_2083 (lv_at hl 1 rfl) ?_
    refine lv_iconst (v := 1) hx hb dL_law_2085 (by decide) ?_
    refine lv_iadd hx hb dL_law_2086 ?_
    refine lv_to (y := nI (i + 1)) (nI_add i 1) ?_
    refine va_sld hx hb hX0 hbl (Nat.not_le.mpr hbl) G.2.2 (i := nI (i + 1)) (vp_in_nI (n := i + 1) (N := L) (by omega) (by omega)) dL_law_2087 ?_
    refine lv_to (y := xs (i + 1)) (congrArg xs (nI_clamp (by omega))) ?_
    refine lv_aload_n hx hb dL_law_2088 rfl (lv_at hl 6 rfl) ?_
    refine lv_iload hx hb dL_law_2089 (lv_at hl 1 rfl) ?_
    refine lv_iconst (v := 2) hx hb dL_law_2091 (by decide) ?_
    refine lv_iadd hx hb dL_law_2092 ?_
    refine lv_to (y := nI (i + 2)) (nI_add i 2) ?_
    refine va_sld hx hb hX0 hbl (Nat.not_le.mpr hbl) G.2.2 (i := nI (i + 2)) (vp_in_nI (n := i + 2) (N := L) (by omega) (by omega)) dL_law_2093 ?_
    refine lv_to (y := xs (i + 2)) (congrArg xs (nI_clamp (by omega))) ?_
    have kb : W p l e room_1 s m #[Value.ref b] below meth c H locs (19 + T.1 + j + (T1.1 - T.1 + 1)) (38467 + sg T + 6 * j + (sg T1 - sg T + 6)) Q (F0 m 2102 ls [.int (vnz (xs (i + 2))), .int (xs (i + 1)), .ref (am 0)]) := by
      obtain ⟨⟨r2, S1⟩, hf, hj⟩ := sj_mute Sm (xs (i + 1)) (vnz (xs (i + 2))) hJ
      have hJ1 : JJ S1 := hj
      refine y_mi (As := [.int (xs (i + 1)), .int (vnz (xs (i + 2)))]) (rest := []) E G hA hX.2.2.2.2 hml (tr_mute l D cI cJ cZ am Sm (xs (i + 1)) (vnz (xs (i + 2))) hf) (cwV 2 hts (glM (L := [Cond.methodLink RL 375 yX12_mute, Cond.instanceMethod yX12_mute, Cond.selects RX12 yX12_mute yX12_mute, Cond.initialized RX12]) (gl_in [(10, 153), (10, 154), (10, 155), (1, 14)] (by decide +kernel) (by decide +kernel)) ⟨(t_of [Cond.code yX12_mute cX12_mute 3 (some .boolean)] [(10, 156)] (by decide +kernel) _ List.mem_cons_self), List.all_eq_true.mp (by decide +kernel : [Cond.code yX12_mute cX12_mute 3 (some .boolean)].all goodWord = true) _ List.mem_cons_self⟩) rfl rfl rfl (by decide +kernel) ⟨Nat.le_of_ble_eq_true rfl, Nat.le_of_ble_eq_true rfl⟩) rfl hl.1 rfl (lv_room (Nat.le_of_ble_eq_true rfl)) dL_law_2102 ⟨by show _ ≤ 601024; omega, by show _ ≤ 7293034; omega⟩ (fun H locs G => ?_)
      refine lv_istore (lv' := [(7, .int r2), (6, .int (vck 1 2 0 k1)), (5, .int (nI i)), (4, .ref ae), (3, .ref aj), (2, .ref (am 0)), (1, .ref (ad2 0)), (0, .ref b)]) hx hb dL_law_2105 hl (by decide) rfl (fun ls hl => ?_)
      refine lv_goto (tgt := 2439) hx hb dL_law_2107 (by decide) ?_
      have hl := lv_sub hl [2, 3, 4, 5, 6, 7] rfl
      refine W.widen (k := 19 + T1.1 + (j + 1)) (n := 38467 + sg T1 + 6 * (j + 1)) (by omega) (by omega) ?_
      exact kk ad2 (vfJ k1 f (vzb r1)) g H locs ls hg hf (had 0 h0T) hV1 hrc1 hJ1 G hl
    refine lv_if_eq (tgt := 2101) hx hb dL_law_2094 (by decide) (fun c1 => ?_) (fun c1 => ?_)
    · refine lv_iconst (v := 0) hx hb dL_law_2101 (by decide) ?_
      refine lv_to (y := vnz (xs (i + 2))) (if_pos c1).symm ?_
      exact kb
    · refine lv_iconst (v := 1) hx hb dL_law_2097 (by decide) ?_
      refine lv_to (y := vnz (xs (i + 2))) (if_neg c1).symm ?_
      refine lv_goto (tgt := 2102) hx hb dL_law_2098 (by decide) ?_
      exact kb
  refine lv_if_eq (tgt := 2074) hx hb dL_law_2067 (by decide) (fun c1 => ?_) (fun c1 => ?_)
  · refine lv_iconst (v := 0) hx hb dL_law_2074 (by decide) ?_
    refine lv_to (y := vnz (xs (i + 2))) (if_pos c1).symm ?_
    exact kb
  · refine lv_iconst (v := 1) hx hb dL_law_2070 (by decide) ?_
    refine lv_to (y := vnz (xs (i + 2))) (if_neg c1).symm ?_
    refine lv_goto (tgt := 2075) hx hb dL_law_2071 (by decide) ?_
    exact kb
set_option maxHeartbeats 4000000 in
set_option maxRecDepth 100000 in
theorem y_a54 {p : Program} {e : Env} {s : State} {m : MethodId} {below : List Frame} {meth : Method} {c : Code} (l : Launch) (hst : l.stackTraces = false) {b L : Nat} {xs : Nat → Int32} (hx : p.tables.exec = Jvm.exec) (hb : c.code = code) (hml : c.maxLocals = 9) (hown : s.vm.findClass RL = some m.cls) (hts : ∀ w ∈ lw_tbl, w.before #[Value.ref b] s = true) (hX0 : va_X b L xs s s.heap) (hbl : b < s.heap.size) (hX : xT (fun q => s.heap.size ≤ q) s) (hN : nC s) (hTS : sAll s.heap.size s) {D : va_G} {cI cJ cZ cMic cSrc cSt cAI cAJ cD : ClassId} (hK : va_K D vwCl (CT cI cJ cZ cMic cSrc cSt cAI cAJ ++ [(cD, .double)]) s) {Q : State → Prop} {i j : Nat} (hi : i + 6 ≤ L) (hL : L ≤ 3072) (hj : j < 512) {aj ae : Nat} {ad am : Nat → Nat} {T : AT} {Sm : MS} {f : Nat → Int64} {g : Nat → UInt64} {ls : Array Slot} {H : Heap} {locs : List Loc} (hV : IV aR0 1586 aK1 aK2 T) (hrc : RC T) (hJ : JJ Sm) (G : gL cI cJ cZ cMic cSrc cSt cAI cAJ D ad (fun q => s.heap.size ≤ q) s.heap H locs T (oJ aj cJ f :: oD ae cD g :: MW cI cJ cZ am Sm)) (hl : lv_has ls 9 [(5, .int (nI i)), (4, .ref ae), (3, .ref aj), (2, .ref (am 0)), (1, .ref (ad 0)), (0, .ref b)]) (kk : ∀ {k1 : Nat} {r1 : Int32} {T1 : AT} {r2 : Int32} {S1 : MS} (ad2 : Nat → Nat) (f1 : Nat → Int64) (g1 : Nat → UInt64) (H1 : Heap) (locs1 : List Loc) (ls1 : Array Slot), g_X11_setWeight T 0 (xs (i + 1)) (xs (i + 2)) = some (k1, r1, T1) → fr_setWeight Sm (xs (i + 1)) (xs (i + 2)) = some (r2, S1) → ad2 0 = ad 0 → IV aR0 1586 aK1 aK2 T1 → RC T1 → JJ S1 → gL cI cJ cZ cMic cSrc cSt cAI cAJ D ad2 (fun q => s.heap.size ≤ q) s.heap H1 locs1 T1 (oJ aj cJ f1 :: oD ae cD g1 :: MW cI cJ cZ am S1) → lv_has ls1 9 [(5, .int (nI i)), (4, .ref ae), (3, .ref aj), (2, .ref (am 0)), (1, .ref (ad2 0)), (0, .ref b)] → W p l e room_1 s m #[Value.ref b] below meth c H1 locs1 (19 + T1.1 + (j + 1)) (38467 + sg T1 + 6 * (j + 1)) Q (F0 m 2439 ls1 [])) : W p l e room_1 s m #[Value.ref b] below meth c H locs (19 + T.1 + j) (38467 + sg T + 6 * j) Q (F0 m 2110 ls []) := by
  have E : cE p c cL_law s m #[Value.ref b] lw_tbl D RL (CT cI cJ cZ cMic cSrc cSt cAI cAJ ++ [(cD, .double)]) := ⟨hx, hb, hts, hown, hK⟩
  have hA : ∀ q : Nat, s.heap.size ≤ q → s.heap.size ≤ q := fun _ h => h
  have h0T : 0 < T.1 := Nat.lt_of_lt_of_le (by decide) hV.1.2.2
  have h0s : T.2.1 0 = (11, 0) := hV.2.1 0 ⟨by decide, by decide +kernel, by decide +kernel⟩
  refine lv_aload_n hx hb dL_law_2110 rfl (lv_at hl 4 rfl) ?_
  refine lv_aload_n hx hb dL_law_2111 rfl (lv_at hl 5 rfl) ?_
  refine lv_iload hx hb dL_law_2112 (lv_at hl 0 rfl) ?_
  refine lv_iconst (v := 1) hx hb dL_law_2114 (by decide) ?_
  refine lv_iadd hx hb dL_law_2115 ?_
  refine lv_to (y := nI (i + 1)) (nI_add i 1) ?_
  refine va_sld hx hb hX0 hbl (Nat.not_le.mpr hbl) G.2.2 (i := nI (i + 1)) (vp_in_nI (n := i + 1) (N := L) (by omega) (by omega)) dL_law_2116 ?_
  refine lv_to (y := xs (i + 1)) (congrArg xs (nI_clamp (by omega))) ?_
  refine lv_aload_n hx hb dL_law_2117 rfl (lv_at hl 5 rfl) ?_
  refine lv_iload hx hb dL_law_2118 (lv_at hl 0 rfl) ?_
  refine lv_iconst (v := 2) hx hb dL_law_2120 (by decide) ?_
  refine lv_iadd hx hb dL_law_2121 ?_
  refine lv_to (y := nI (i + 2)) (nI_add i 2) ?_
  refine va_sld hx hb hX0 hbl (Nat.not_le.mpr hbl) G.2.2 (i := nI (i + 2)) (vp_in_nI (n := i + 2) (N := L) (by omega) (by omega)) dL_law_2122 ?_
  refine lv_to (y := xs (i + 2)) (congrArg xs (nI_clamp (by omega))) ?_
  refine lv_aload_n hx hb dL_law_2123 rfl (lv_at hl 2 rfl) ?_
  obtain ⟨⟨k1, r1, T1⟩, hg, hc⟩ := cs_X11_setWeight T 0 (xs (i + 1)) (xs (i + 2)) hV (by decide +kernel)
  have hV1 : IV aR0 1586 aK1 aK2 T1 := hc.1.1
  have hg1 := s_X11_setWeight hg
  have hg2 := sg_le hg1
  have hg3 := hg1.1
  have hk := hV1.2.2.2.2.2.2
  have hrc1 := hg1.2.2 hrc
  have hr0 := a_room
  refine l_v (h0 := s.heap.size) (As := [.ref (ad 0), .int (xs (i + 1)), .int (xs (i + 2)), .ref aj]) (rest := []) E G hA hX hN (fun _ h => h) hTS hml (v_setWeight l hst D s.heap.size ad T 0 (xs (i + 1)) (xs (i + 2)) aj f hg hrc h0T h0s) (vx_cwSW 4 hts (glA (L := [Cond.methodLink RL 376 yL_setWeight, Cond.static yL_setWeight, Cond.initialized RL]) (gl_in [(7, 131), (7, 132), (1, 0)] (by decide +kernel) (by decide +kernel)) ⟨(t_of [Cond.codeWith yL_setWeight cL_setWeight 5 (some .int) [(0, 10, 13, 21), (0, 10, 17, 13), (0, 10, 21, 15)]] [(7, 133)] (by decide +kernel) _ List.mem_cons_self), List.all_eq_true.mp (by decide +kernel : [Cond.codeWith yL_setWeight cL_setWeight 5 (some .int) [(0, 10, 13, 21), (0, 10, 17, 13), (0, 10, 21, 15)]].all goodWord = true) _ List.mem_cons_self⟩) rfl rfl rfl (by decide +kernel) ⟨Nat.le_of_ble_eq_true rfl, Nat.le_of_ble_eq_true rfl⟩) rfl hl.1 rfl (lv_room (Nat.le_of_ble_eq_true rfl)) dL_law_2124 ⟨by show _ ≤ 601024; omega, by show _ ≤ 7293034; omega⟩ ?_
  intro ad2 H locs had G
  rw [← had 0 h0T] at hl
  refine lv_istore (lv' := [(6, .int (vck 1 2 3 k1)), (5, .int (nI i)), (4, .ref ae), (3, .ref aj), (2, .ref (am 0)), (1, .ref (ad2 0)), (0, .ref b)]) hx hb dL_law_2127 hl (by decide) rfl (fun ls hl => ?_)
  refine lv_aload_n hx hb dL_law_2129 rfl (lv_at hl 4 rfl) ?_
  refine lv_aload_n hx hb dL_law_2130 rfl (lv_at hl 6 rfl) ?_
  refine lv_iload hx hb dL_law_2131 (lv_at hl 1 rfl) ?_
  refine lv_iconst (v := 1) hx hb dL_law_2133 (by decide) ?_
  refine lv_iadd hx hb dL_law_2134 ?_
  refine lv_to (y := nI (i + 1)) (nI_add i 1) ?_
  refine va_sld hx hb hX0 hbl (Nat.not_le.mpr hbl) G.2.2 (i := nI (i + 1)) (vp_in_nI (n := i + 1) (N := L) (by omega) (by omega)) dL_law_2135 ?_
  refine lv_to (y := xs (i + 1)) (congrArg xs (nI_clamp (by omega))) ?_
  refine lv_aload_n hx hb dL_law_2136 rfl (lv_at hl 6 rfl) ?_
  refine lv_iload hx hb dL_law_2137 (lv_at hl 1 rfl) ?_
  refine lv_iconst (v := 2) hx hb dL_law_2139 (by decide) ?_
  refine lv_iadd hx hb dL_law_2140 ?_
  refine lv_to (y := nI (i + 2)) (nI_add i 2) ?_
  refine va_sld hx hb hX0 hbl (Nat.not_le.mpr hbl) G.2.2 (i := nI (i + 2)) (vp_in_nI (n := i + 2) (N := L) (by omega) (by omega)) dL_law_2141 ?_
  refine lv_to (y := xs (i + 2)) (congrArg xs (nI_clamp (by omega))) ?_
  obtain ⟨⟨r2, S1⟩, hf, hj⟩ := sj_setWeight Sm (xs (i + 1)) (xs (i + 2)) hJ
  have hJ1 : JJ S1 := hj
  refine y_mi (As := [.int (xs (i + 1)), .int (xs (i + 2))]) (rest := []) E G hA hX.2.2.2.2 hml (tr_setWeight l D cI cJ cZ am Sm (xs (i + 1)) (xs (i + 2)) hf) (cwV 2 hts (glM (L := [Cond.methodLink RL 378 yX12_setWeight, Cond.instanceMethod yX12_setWeight, Cond.selects RX12 yX12_setWeight yX12_setWeight, Cond.initialized RX12]) (gl_in [(10, 165), (10, 166), (10, 167), (1, 14)] (by decide +kernel) (by decide +kernel)) ⟨(t_of [Cond.code yX12_setWeight cX12_setWeight 3 (some .int)] [(10, 168)] (by decide +kernel) _ List.mem_cons_self), List.all_eq_true.mp (by decide +kernel : [Cond.code yX12_setWeight cX12_setWeight 3 (some .int)].all goodWord = true) _ List.mem_cons_self⟩) rfl rfl rfl (by decide +kernel) ⟨Nat.le_of_ble_eq_true rfl, Nat.le_of_ble_eq_true rfl⟩) rfl hl.1 rfl (lv_room (Nat.le_of_ble_eq_true rfl)) dL_law_2142 ⟨by show _ ≤ 601024; omega, by show _ ≤ 7293034; omega⟩ (fun H locs G => ?_)
  refine lv_istore (lv' := [(7, .int r2), (6, .int (vck 1 2 3 k1)), (5, .int (nI i)), (4, .ref ae), (3, .ref aj), (2, .ref (am 0)), (1, .ref (ad2 0)), (0, .ref b)]) hx hb dL_law_2145 hl (by decide) rfl (fun ls hl => ?_)
  refine lv_goto (tgt := 2439) hx hb dL_law_2147 (by decide) ?_
  have hl := lv_sub hl [2, 3, 4, 5, 6, 7] rfl
  refine W.widen (k := 19 + T1.1 + (j + 1)) (n := 38467 + sg T1 + 6 * (j + 1)) (by omega) (by omega) ?_
  exact kk ad2 (vfJ k1 f r1.toInt64) g H locs ls hg hf (had 0 h0T) hV1 hrc1 hJ1 G hl
set_option maxHeartbeats 4000000 in
set_option maxRecDepth 100000 in
theorem y_a55 {p : Program} {e : Env} {s : State} {m : MethodId} {below : List Frame} {meth : Method} {c : Code} (l : Launch) (hst : l.stackTraces = false) {b L : Nat} {xs : Nat → Int32} (hx : p.tables.exec = Jvm.exec) (hb : c.code = code) (hml : c.maxLocals = 9) (hown : s.vm.findClass RL = some m.cls) (hts : ∀ w ∈ lw_tbl, w.before #[Value.ref b] s = true) (hX0 : va_X b L xs s s.heap) (hbl : b < s.heap.size) (hX : xT (fun q => s.heap.size ≤ q) s) (hN : nC s) (hTS : sAll s.heap.size s) {D : va_G} {cI cJ cZ cMic cSrc cSt cAI cAJ cD : ClassId} (hK : va_K D vwCl (CT cI cJ cZ cMic cSrc cSt cAI cAJ ++ [(cD, .double)]) s) {Q : State → Prop} {i j : Nat} (hi : i + 6 ≤ L) (hL : L ≤ 3072) (hj : j < 512) {aj ae : Nat} {ad am : Nat → Nat} {T : AT} {Sm : MS} {f : Nat → Int64} {g : Nat → UInt64} {ls : Array Slot} {H : Heap} {locs : List Loc} (hV : IV aR0 1586 aK1 aK2 T) (hrc : RC T) (hJ : JJ Sm) (G : gL cI cJ cZ cMic cSrc cSt cAI cAJ D ad (fun q => s.heap.size ≤ q) s.heap H locs T (oJ aj cJ f :: oD ae cD g :: MW cI cJ cZ am Sm)) (hl : lv_has ls 9 [(5, .int (nI i)), (4, .ref ae), (3, .ref aj), (2, .ref (am 0)), (1, .ref (ad 0)), (0, .ref b)]) (kk : ∀ {k1 : Nat} {r1 : Int32} {T1 : AT} {r2 : Int32} {S1 : MS} (ad2 : Nat → Nat) (f1 : Nat → Int64) (g1 : Nat → UInt64) (H1 : Heap) (locs1 : List Loc) (ls1 : Array Slot), g_X11_setOn T 0 (xs (i + 1)) (vnz (xs (i + 2))) = some (k1, r1, T1) → fr_setOn Sm (xs (i + 1)) (vnz (xs (i + 2))) = some (r2, S1) → ad2 0 = ad 0 → IV aR0 1586 aK1 aK2 T1 → RC T1 → JJ S1 → gL cI cJ cZ cMic cSrc cSt cAI cAJ D ad2 (fun q => s.heap.size ≤ q) s.heap H1 locs1 T1 (oJ aj cJ f1 :: oD ae cD g1 :: MW cI cJ cZ am S1) → lv_has ls1 9 [(5, .int (nI i)), (4, .ref ae), (3, .ref aj), (2, .ref (am 0)), (1, .ref (ad2 0)), (0, .ref b)] → W p l e room_1 s m #[Value.ref b] below meth c H1 locs1 (19 + T1.1 + (j + 1)) (38467 + sg T1 + 6 * (j + 1)) Q (F0 m 2439 ls1 [])) : W p l e room_1 s m #[Value.ref b] below meth c H locs (19 + T.1 + j) (38467 + sg T + 6 * j) Q (F0 m 2150 ls []) := by
  have E : cE p c cL_law s m #[Value.ref b] lw_tbl D RL (CT cI cJ cZ cMic cSrc cSt cAI cAJ ++ [(cD, .double)]) := ⟨hx, hb, hts, hown, hK⟩
  have hA : ∀ q : Nat, s.heap.size ≤ q → s.heap.size ≤ q := fun _ h => h
  have h0T : 0 < T.1 := Nat.lt_of_lt_of_le (by decide) hV.1.2.2
  have h0s : T.2.1 0 = (11, 0) := hV.2.1 0 ⟨by decide, by decide +kernel, by decide +kernel⟩
  refine lv_aload_n hx hb dL_law_2150 rfl (lv_at hl 4 rfl) ?_
  refine lv_aload_n hx hb dL_law_2151 rfl (lv_at hl 5 rfl) ?_
  refine lv_iload hx hb dL_law_2152 (lv_at hl 0 rfl) ?_
  refine lv_iconst (v := 1) hx hb dL_law_2154 (by decide) ?_
  refine lv_iadd hx hb dL_law_2155 ?_
  refine lv_to (y := nI (i + 1)) (nI_add i 1) ?_
  refine va_sld hx hb hX0 hbl (Nat.not_le.mpr hbl) G.2.2 (i := nI (i + 1)) (vp_in_nI (n := i + 1) (N := L) (by omega) (by omega)) dL_law_2156 ?_
  refine lv_to (y := xs (i + 1)) (congrArg xs (nI_clamp (by omega))) ?_
  refine lv_aload_n hx hb dL_law_2157 rfl (lv_at hl 5 rfl) ?_
  refine lv_iload hx hb dL_law_2158 (lv_at hl 0 rfl) ?_
  refine lv_iconst (v := 2) hx hb dL_law_2160 (by decide) ?_
  refine lv_iadd hx hb dL_law_2161 ?_
  refine lv_to (y := nI (i + 2)) (nI_add i 2) ?_
  refine va_sld hx hb hX0 hbl (Nat.not_le.mpr hbl) G.2.2 (i := nI (i + 2)) (vp_in_nI (n := i + 2) (N := L) (by omega) (by omega)) dL_law_2162 ?_
  refine lv_to (y := xs (i + 2)) (congrArg xs (nI_clamp (by omega))) ?_
  have kb : W p l e room_1 s m #[Value.ref b] below meth c H locs (19 + T.1 + j) (38467 + sg T + 6 * j) Q (F0 m 2171 ls [.int (vnz (xs (i + 2))), .int (xs (i + 1)), .ref (ad 0)]) := by
    refine lv_aload_n hx hb dL_law_2171 rfl (lv_at hl 2 rfl) ?_
    obtain ⟨⟨k1, r1, T1⟩, hg, hc⟩ := cs_X11_setOn T 0 (xs (i + 1)) (vnz (xs (i + 2))) hV (by decide +kernel) (vnz_r _)
    have hV1 : IV aR0 1586 aK1 aK2 T1 := hc.1.1
    have hg1 := s_X11_setOn hg
    have hg2 := sg_le hg1
    have hg3 := hg1.1
    have hk := hV1.2.2.2.2.2.2
    have hrc1 := hg1.2.2 hrc
    have hr0 := a_room
    refine l_v (h0 := s.heap.size) (As := [.ref (ad 0), .int (xs (i + 1)), .int (vnz (xs (i + 2))), .ref aj]) (rest := []) E G hA hX hN (fun _ h => h) hTS hml (v_setOn l hst D s.heap.size ad T 0 (xs (i + 1)) (vnz (xs (i + 2))) aj f hg hrc h0T h0s) (vx_cwSW 4 hts (glA (L := [Cond.methodLink RL 379 yL_setOn, Cond.static yL_setOn, Cond.initialized RL]) (gl_in [(7, 138), (7, 139), (1, 0)] (by decide +kernel) (by decide +kernel)) ⟨(t_of [Cond.codeWith yL_setOn cL_setOn 5 (some .int) [(0, 17, 20, 21), (0, 17, 24, 13)]] [(7, 140)] (by decide +kernel) _ List.mem_cons_self), List.all_eq_true.mp (by decide +kernel : [Cond.codeWith yL_setOn cL_setOn 5 (some .int) [(0, 17, 20, 21), (0, 17, 24, 13)]].all goodWord = true) _ List.mem_cons_self⟩) rfl rfl rfl (by decide +kernel) ⟨Nat.le_of_ble_eq_true rfl, Nat.le_of_ble_eq_true rfl⟩) rfl hl.1 rfl (lv_room (Nat.le_of_ble_eq_true rfl)) dL_law_2172 ⟨by show _ ≤ 601024; omega, by show _ ≤ 7293034; omega⟩ ?_
    intro ad2 H locs had G
    rw [← had 0 h0T] at hl
    refine lv_istore (lv' := [(6, .int (vck 1 2 0 k1)), (5, .int (nI i)), (4, .ref ae), (3, .ref aj), (2, .ref (am 0)), (1, .ref (ad2 0)), (0, .ref b)]) hx hb dL_law_2175 hl (by decide) rfl (fun ls hl => ?_)
    refine lv_aload_n hx hb dL_law_2177 rfl (lv_at hl 4 rfl) ?_
    refine lv_aload_n hx hb dL_law_2178 rfl (lv_at hl 6 rfl) ?_
    refine lv_iload hx hb dL_law_2179 (lv_at hl 1 rfl) ?_
    refine lv_iconst (v := 1) hx hb dL_law_2181 (by decide) ?_
    refine lv_iadd hx hb dL_law_2182 ?_
    refine lv_to (y := nI (i + 1)) (nI_add i 1) ?_
    refine va_sld hx hb hX0 hbl (Nat.not_le.mpr hbl) G.2.2 (i := nI (i + 1)) (vp_in_nI (n := i + 1) (N := L) (by omega) (by omega)) dL_law_2183 ?_
    refine lv_to (y := xs (i + 1)) (congrArg xs (nI_clamp (by omega))) ?_
    refine lv_aload_n hx hb dL_law_2184 rfl (lv_at hl 6 rfl) ?_
    refine lv_iload hx hb dL_law_2185 (lv_at hl 1 rfl) ?_
    refine lv_iconst (v := 2) hx hb dL_law_2187 (by decide) ?_
    refine lv_iadd hx hb dL_law_2188 ?_
    refine lv_to (y := nI (i + 2)) (nI_add i 2) ?_
    refine va_sld hx hb hX0 hbl (Nat.not_le.mpr hbl) G.2.2 (i := nI (i + 2)) (vp_in_nI (n := i + 2) (N := L) (by omega) (by omega)) dL_law_2189 ?_
    refine lv_to (y := xs (i + 2)) (congrArg xs (nI_clamp (by omega))) ?_
    have kb : W p l e room_1 s m #[Value.ref b] below meth c H locs (19 + T.1 + j + (T1.1 - T.1 + 1)) (38467 + sg T + 6 * j + (sg T1 - sg T + 6)) Q (F0 m 2198 ls [.int (vnz (xs (i + 2))), .int (xs (i + 1)), .ref (am 0)]) := by
      obtain ⟨⟨r2, S1⟩, hf, hj⟩ := sj_setOn Sm (xs (i + 1)) (vnz (xs (i + 2))) hJ
      have hJ1 : JJ S1 := hj
      refine y_mi (As := [.int (xs (i + 1)), .int (vnz (xs (i + 2)))]) (rest := []) E G hA hX.2.2.2.2 hml (tr_setOn l D cI cJ cZ am Sm (xs (i + 1)) (vnz (xs (i + 2))) hf) (cwV 2 hts (glM (L := [Cond.methodLink RL 381 yX12_setOn, Cond.instanceMethod yX12_setOn, Cond.selects RX12 yX12_setOn yX12_setOn, Cond.initialized RX12]) (gl_in [(10, 169), (10, 170), (10, 171), (1, 14)] (by decide +kernel) (by decide +kernel)) ⟨(t_of [Cond.code yX12_setOn cX12_setOn 4 (some .boolean)] [(10, 172)] (by decide +kernel) _ List.mem_cons_self), List.all_eq_true.mp (by decide +kernel : [Cond.code yX12_setOn cX12_setOn 4 (some .boolean)].all goodWord = true) _ List.mem_cons_self⟩) rfl rfl rfl (by decide +kernel) ⟨Nat.le_of_ble_eq_true rfl, Nat.le_of_ble_eq_true rfl⟩) rfl hl.1 rfl (lv_room (Nat.le_of_ble_eq_true rfl)) dL_law_2198 ⟨by show _ ≤ 601024; omega, by show _ ≤ 7293034; omega⟩ (fun H locs G => ?_)
      refine lv_istore (lv' := [(7, .int r2), (6, .int (vck 1 2 0 k1)), (5, .int (nI i)), (4, .ref ae), (3, .ref aj), (2, .ref (am 0)), (1, .ref (ad2 0)), (0, .ref b)]) hx hb dL_law_2201 hl (by decide) rfl (fun ls hl => ?_)
      refine lv_goto (tgt := 2439) hx hb dL_law_2203 (by decide) ?_
      have hl := lv_sub hl [2, 3, 4, 5, 6, 7] rfl
      refine W.widen (k := 19 + T1.1 + (j + 1)) (n := 38467 + sg T1 + 6 * (j + 1)) (by omega) (by omega) ?_
      exact kk ad2 (vfJ k1 f (vzb r1)) g H locs ls hg hf (had 0 h0T) hV1 hrc1 hJ1 G hl
    refine lv_if_eq (tgt := 2197) hx hb dL_law_2190 (by decide) (fun c1 => ?_) (fun c1 => ?_)
    · refine lv_iconst (v := 0) hx hb dL_law_2197 (by decide) ?_
      refine lv_to (y := vnz (xs (i + 2))) (if_pos c1).symm ?_
      exact kb
    · refine lv_iconst (v := 1) hx hb dL_law_2193 (by decide) ?_
      refine lv_to (y := vnz (xs (i + 2))) (if_neg c1).symm ?_
      refine lv_goto (tgt := 2198) hx hb dL_law_2194 (by decide) ?_
      exact kb
  refine lv_if_eq (tgt := 2170) hx hb dL_law_2163 (by decide) (fun c1 => ?_) (fun c1 => ?_)
  · refine lv_iconst (v := 0) hx hb dL_law_2170 (by decide) ?_
    refine lv_to (y := vnz (xs (i + 2))) (if_pos c1).symm ?_
    exact kb
  · refine lv_iconst (v := 1) hx hb dL_law_2166 (by decide) ?_
    refine lv_to (y := vnz (xs (i + 2))) (if_neg c1).symm ?_
    refine lv_goto (tgt := 2171) hx hb dL_law_2167 (by decide) ?_
    exact kb
end
