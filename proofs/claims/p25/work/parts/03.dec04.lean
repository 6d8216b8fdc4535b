theorem dL_law_611 : decode cL_law 611 = .ok (.aload_n 1, 1) := by decide +kernel
theorem dL_law_612 : decode cL_law 612 = .ok (.iload 6, 2) := by decide +kernel
theorem dL_law_614 : decode cL_law 614 = .ok (.iload 8, 2) := by decide +kernel
theorem dL_law_616 : decode cL_law 616 = .ok (.iconst 0, 1) := by decide +kernel
theorem dL_law_617 : decode cL_law 617 = .ok (.iconst 1, 1) := by decide +kernel
theorem dL_law_618 : decode cL_law 618 = .ok (.invokevirtual 104, 3) := by decide +kernel
theorem dL_law_621 : decode cL_law 621 = .ok (.l2d, 1) := by decide +kernel
theorem dL_law_622 : decode cL_law 622 = .ok (.aload_n 1, 1) := by decide +kernel
theorem dL_law_623 : decode cL_law 623 = .ok (.iload 6, 2) := by decide +kernel
theorem dL_law_625 : decode cL_law 625 = .ok (.iload 8, 2) := by decide +kernel
theorem dL_law_627 : decode cL_law 627 = .ok (.iconst 0, 1) := by decide +kernel
theorem dL_law_628 : decode cL_law 628 = .ok (.iconst 0, 1) := by decide +kernel
theorem dL_law_629 : decode cL_law 629 = .ok (.invokevirtual 104, 3) := by decide +kernel
theorem dL_law_632 : decode cL_law 632 = .ok (.l2d, 1) := by decide +kernel
theorem dL_law_633 : decode cL_law 633 = .ok (.ddiv, 1) := by decide +kernel
theorem dL_law_634 : decode cL_law 634 = .ok (.aload_n 1, 1) := by decide +kernel
theorem dL_law_635 : decode cL_law 635 = .ok (.iload 8, 2) := by decide +kernel
theorem dL_law_637 : decode cL_law 637 = .ok (.iload 7, 2) := by decide +kernel
theorem dL_law_639 : decode cL_law 639 = .ok (.iconst 0, 1) := by decide +kernel
theorem dL_law_640 : decode cL_law 640 = .ok (.iconst 1, 1) := by decide +kernel
theorem dL_law_641 : decode cL_law 641 = .ok (.invokevirtual 104, 3) := by decide +kernel
theorem dL_law_644 : decode cL_law 644 = .ok (.l2d, 1) := by decide +kernel
theorem dL_law_645 : decode cL_law 645 = .ok (.aload_n 1, 1) := by decide +kernel
theorem dL_law_646 : decode cL_law 646 = .ok (.iload 8, 2) := by decide +kernel
theorem dL_law_648 : decode cL_law 648 = .ok (.iload 7, 2) := by decide +kernel
theorem dL_law_650 : decode cL_law 650 = .ok (.iconst 0, 1) := by decide +kernel
theorem dL_law_651 : decode cL_law 651 = .ok (.iconst 0, 1) := by decide +kernel
theorem dL_law_652 : decode cL_law 652 = .ok (.invokevirtual 104, 3) := by decide +kernel
theorem dL_law_655 : decode cL_law 655 = .ok (.l2d, 1) := by decide +kernel
theorem dL_law_656 : decode cL_law 656 = .ok (.ddiv, 1) := by decide +kernel
theorem dL_law_657 : decode cL_law 657 = .ok (.dadd, 1) := by decide +kernel
theorem dL_law_658 : decode cL_law 658 = .ok (.dstore 11, 2) := by decide +kernel
theorem dL_law_660 : decode cL_law 660 = .ok (.dload 9, 2) := by decide +kernel
theorem dL_law_662 : decode cL_law 662 = .ok (.dload 11, 2) := by decide +kernel
theorem dL_law_664 : decode cL_law 664 = .ok (.ldc2_w 108, 3) := by decide +kernel
theorem dL_law_667 : decode cL_law 667 = .ok (.dadd, 1) := by decide +kernel
theorem dL_law_668 : decode cL_law 668 = .ok (.dcmp .l, 1) := by decide +kernel
theorem dL_law_669 : decode cL_law 669 = .ok (.ifCond .gt 10, 3) := by decide +kernel
theorem dL_law_672 : decode cL_law 672 = .ok (.dload 9, 2) := by decide +kernel
theorem dL_law_674 : decode cL_law 674 = .ok (.dconst 0, 1) := by decide +kernel
theorem dL_law_675 : decode cL_law 675 = .ok (.dcmp .g, 1) := by decide +kernel
theorem dL_law_676 : decode cL_law 676 = .ok (.ifCond .ge 5, 3) := by decide +kernel
theorem dL_law_679 : decode cL_law 679 = .ok (.iconst 0, 1) := by decide +kernel
theorem dL_law_680 : decode cL_law 680 = .ok (.ireturn, 1) := by decide +kernel
theorem dL_law_681 : decode cL_law 681 = .ok (.iinc 8 1, 3) := by decide +kernel
theorem dL_law_684 : decode cL_law 684 = .ok (.goto (-131), 3) := by decide +kernel
theorem dL_law_687 : decode cL_law 687 = .ok (.iinc 7 1, 3) := by decide +kernel
theorem dL_law_690 : decode cL_law 690 = .ok (.goto (-146), 3) := by decide +kernel
theorem dL_law_693 : decode cL_law 693 = .ok (.iinc 6 1, 3) := by decide +kernel
theorem dL_law_696 : decode cL_law 696 = .ok (.goto (-161), 3) := by decide +kernel
theorem dL_law_699 : decode cL_law 699 = .ok (.aload_n 1, 1) := by decide +kernel
theorem dL_law_700 : decode cL_law 700 = .ok (.iconst 0, 1) := by decide +kernel
theorem dL_law_701 : decode cL_law 701 = .ok (.invokevirtual 110, 3) := by decide +kernel
theorem dL_law_704 : decode cL_law 704 = .ok (.dconst 0, 1) := by decide +kernel
theorem dL_law_705 : decode cL_law 705 = .ok (.dcmp .l, 1) := by decide +kernel
theorem dL_law_706 : decode cL_law 706 = .ok (.ifCond .lt 7, 3) := by decide +kernel
theorem dL_law_709 : decode cL_law 709 = .ok (.iconst 1, 1) := by decide +kernel
theorem dL_law_710 : decode cL_law 710 = .ok (.goto 4, 3) := by decide +kernel
theorem dL_law_713 : decode cL_law 713 = .ok (.iconst 0, 1) := by decide +kernel
theorem dL_law_714 : decode cL_law 714 = .ok (.ireturn, 1) := by decide +kernel
