/-! what stands at each place of the code, by program -/
theorem d_L_law_608 : decode code 608 = .ok (.iload 4, 2) := by decide +kernel
theorem d_L_law_610 : decode code 610 = .ok (.iconst 2, 1) := by decide +kernel
theorem d_L_law_611 : decode code 611 = .ok (.iadd, 1) := by decide +kernel
theorem d_L_law_612 : decode code 612 = .ok (.iaload, 1) := by decide +kernel
theorem d_L_law_613 : decode code 613 = .ok (.invokevirtual 90, 3) := by decide +kernel
theorem d_L_law_616 : decode code 616 = .ok (.if_icmp .eq 157, 3) := by decide +kernel
theorem d_L_law_619 : decode code 619 = .ok (.iconst 0, 1) := by decide +kernel
theorem d_L_law_620 : decode code 620 = .ok (.ireturn, 1) := by decide +kernel
theorem d_L_law_621 : decode code 621 = .ok (.aload_n 1, 1) := by decide +kernel
theorem d_L_law_622 : decode code 622 = .ok (.aload_n 0, 1) := by decide +kernel
theorem d_L_law_623 : decode code 623 = .ok (.iload 4, 2) := by decide +kernel
theorem d_L_law_625 : decode code 625 = .ok (.iconst 1, 1) := by decide +kernel
theorem d_L_law_626 : decode code 626 = .ok (.iadd, 1) := by decide +kernel
theorem d_L_law_627 : decode code 627 = .ok (.iaload, 1) := by decide +kernel
theorem d_L_law_628 : decode code 628 = .ok (.aload_n 0, 1) := by decide +kernel
theorem d_L_law_629 : decode code 629 = .ok (.iload 4, 2) := by decide +kernel
theorem d_L_law_631 : decode code 631 = .ok (.iconst 2, 1) := by decide +kernel
theorem d_L_law_632 : decode code 632 = .ok (.iadd, 1) := by decide +kernel
theorem d_L_law_633 : decode code 633 = .ok (.iaload, 1) := by decide +kernel
theorem d_L_law_634 : decode code 634 = .ok (.invokevirtual 91, 3) := by decide +kernel
theorem d_L_law_637 : decode code 637 = .ok (.aload_n 2, 1) := by decide +kernel
theorem d_L_law_638 : decode code 638 = .ok (.aload_n 0, 1) := by decide +kernel
theorem d_L_law_639 : decode code 639 = .ok (.iload 4, 2) := by decide +kernel
theorem d_L_law_641 : decode code 641 = .ok (.iconst 1, 1) := by decide +kernel
theorem d_L_law_642 : decode code 642 = .ok (.iadd, 1) := by decide +kernel
theorem d_L_law_643 : decode code 643 = .ok (.iaload, 1) := by decide +kernel
theorem d_L_law_644 : decode code 644 = .ok (.aload_n 0, 1) := by decide +kernel
theorem d_L_law_645 : decode code 645 = .ok (.iload 4, 2) := by decide +kernel
theorem d_L_law_647 : decode code 647 = .ok (.iconst 2, 1) := by decide +kernel
theorem d_L_law_648 : decode code 648 = .ok (.iadd, 1) := by decide +kernel
theorem d_L_law_649 : decode code 649 = .ok (.iaload, 1) := by decide +kernel
theorem d_L_law_650 : decode code 650 = .ok (.invokevirtual 94, 3) := by decide +kernel
theorem d_L_law_653 : decode code 653 = .ok (.if_icmp .eq 120, 3) := by decide +kernel
theorem d_L_law_656 : decode code 656 = .ok (.iconst 0, 1) := by decide +kernel
theorem d_L_law_657 : decode code 657 = .ok (.ireturn, 1) := by decide +kernel
theorem d_L_law_658 : decode code 658 = .ok (.aload_n 1, 1) := by decide +kernel
theorem d_L_law_659 : decode code 659 = .ok (.aload_n 0, 1) := by decide +kernel
theorem d_L_law_660 : decode code 660 = .ok (.iload 4, 2) := by decide +kernel
theorem d_L_law_662 : decode code 662 = .ok (.iconst 1, 1) := by decide +kernel
theorem d_L_law_663 : decode code 663 = .ok (.iadd, 1) := by decide +kernel
theorem d_L_law_664 : decode code 664 = .ok (.iaload, 1) := by decide +kernel
theorem d_L_law_665 : decode code 665 = .ok (.invokevirtual 95, 3) := by decide +kernel
theorem d_L_law_668 : decode code 668 = .ok (.aload_n 2, 1) := by decide +kernel
theorem d_L_law_669 : decode code 669 = .ok (.aload_n 0, 1) := by decide +kernel
theorem d_L_law_670 : decode code 670 = .ok (.iload 4, 2) := by decide +kernel
theorem d_L_law_672 : decode code 672 = .ok (.iconst 1, 1) := by decide +kernel
theorem d_L_law_673 : decode code 673 = .ok (.iadd, 1) := by decide +kernel
theorem d_L_law_674 : decode code 674 = .ok (.iaload, 1) := by decide +kernel
theorem d_L_law_675 : decode code 675 = .ok (.invokevirtual 99, 3) := by decide +kernel
theorem d_L_law_678 : decode code 678 = .ok (.if_icmp .eq 95, 3) := by decide +kernel
theorem d_L_law_681 : decode code 681 = .ok (.iconst 0, 1) := by decide +kernel
theorem d_L_law_682 : decode code 682 = .ok (.ireturn, 1) := by decide +kernel
theorem d_L_law_683 : decode code 683 = .ok (.aload_n 1, 1) := by decide +kernel
theorem d_L_law_684 : decode code 684 = .ok (.aload_n 0, 1) := by decide +kernel
theorem d_L_law_685 : decode code 685 = .ok (.iload 4, 2) := by decide +kernel
theorem d_L_law_687 : decode code 687 = .ok (.iconst 1, 1) := by decide +kernel
theorem d_L_law_688 : decode code 688 = .ok (.iadd, 1) := by decide +kernel
theorem d_L_law_689 : decode code 689 = .ok (.iaload, 1) := by decide +kernel
theorem d_L_law_690 : decode code 690 = .ok (.invokevirtual 100, 3) := by decide +kernel
theorem d_L_law_693 : decode code 693 = .ok (.aload_n 2, 1) := by decide +kernel
theorem d_L_law_694 : decode code 694 = .ok (.aload_n 0, 1) := by decide +kernel
theorem d_L_law_695 : decode code 695 = .ok (.iload 4, 2) := by decide +kernel
theorem d_L_law_697 : decode code 697 = .ok (.iconst 1, 1) := by decide +kernel
theorem d_L_law_698 : decode code 698 = .ok (.iadd, 1) := by decide +kernel
theorem d_L_law_699 : decode code 699 = .ok (.iaload, 1) := by decide +kernel
theorem d_L_law_700 : decode code 700 = .ok (.invokevirtual 103, 3) := by decide +kernel
theorem d_L_law_703 : decode code 703 = .ok (.if_icmp .eq 70, 3) := by decide +kernel
theorem d_L_law_706 : decode code 706 = .ok (.iconst 0, 1) := by decide +kernel
theorem d_L_law_707 : decode code 707 = .ok (.ireturn, 1) := by decide +kernel
theorem d_L_law_708 : decode code 708 = .ok (.aload_n 1, 1) := by decide +kernel
theorem d_L_law_709 : decode code 709 = .ok (.invokevirtual 104, 3) := by decide +kernel
theorem d_L_law_712 : decode code 712 = .ok (.aload_n 2, 1) := by decide +kernel
theorem d_L_law_713 : decode code 713 = .ok (.invokevirtual 107, 3) := by decide +kernel
theorem d_L_law_716 : decode code 716 = .ok (.if_icmp .eq 57, 3) := by decide +kernel
theorem d_L_law_719 : decode code 719 = .ok (.iconst 0, 1) := by decide +kernel
theorem d_L_law_720 : decode code 720 = .ok (.ireturn, 1) := by decide +kernel
theorem d_L_law_721 : decode code 721 = .ok (.aload_n 1, 1) := by decide +kernel
theorem d_L_law_722 : decode code 722 = .ok (.invokevirtual 108, 3) := by decide +kernel
theorem d_L_law_725 : decode code 725 = .ok (.aload_n 2, 1) := by decide +kernel
theorem d_L_law_726 : decode code 726 = .ok (.invokevirtual 111, 3) := by decide +kernel
theorem d_L_law_729 : decode code 729 = .ok (.if_icmp .eq 44, 3) := by decide +kernel
theorem d_L_law_732 : decode code 732 = .ok (.iconst 0, 1) := by decide +kernel
theorem d_L_law_733 : decode code 733 = .ok (.ireturn, 1) := by decide +kernel
theorem d_L_law_734 : decode code 734 = .ok (.aload_n 1, 1) := by decide +kernel
theorem d_L_law_735 : decode code 735 = .ok (.invokevirtual 112, 3) := by decide +kernel
theorem d_L_law_738 : decode code 738 = .ok (.aload_n 2, 1) := by decide +kernel
theorem d_L_law_739 : decode code 739 = .ok (.invokevirtual 115, 3) := by decide +kernel
theorem d_L_law_742 : decode code 742 = .ok (.if_icmp .eq 31, 3) := by decide +kernel
theorem d_L_law_745 : decode code 745 = .ok (.iconst 0, 1) := by decide +kernel
theorem d_L_law_746 : decode code 746 = .ok (.ireturn, 1) := by decide +kernel
theorem d_L_law_747 : decode code 747 = .ok (.aload_n 1, 1) := by decide +kernel
theorem d_L_law_748 : decode code 748 = .ok (.invokevirtual 116, 3) := by decide +kernel
theorem d_L_law_751 : decode code 751 = .ok (.aload_n 2, 1) := by decide +kernel
theorem d_L_law_752 : decode code 752 = .ok (.invokevirtual 119, 3) := by decide +kernel
theorem d_L_law_755 : decode code 755 = .ok (.if_icmp .eq 18, 3) := by decide +kernel
theorem d_L_law_758 : decode code 758 = .ok (.iconst 0, 1) := by decide +kernel
theorem d_L_law_759 : decode code 759 = .ok (.ireturn, 1) := by decide +kernel
theorem d_L_law_760 : decode code 760 = .ok (.aload_n 1, 1) := by decide +kernel
theorem d_L_law_761 : decode code 761 = .ok (.invokevirtual 120, 3) := by decide +kernel
theorem d_L_law_764 : decode code 764 = .ok (.aload_n 2, 1) := by decide +kernel
theorem d_L_law_765 : decode code 765 = .ok (.invokevirtual 123, 3) := by decide +kernel
theorem d_L_law_768 : decode code 768 = .ok (.if_icmp .eq 5, 3) := by decide +kernel
theorem d_L_law_771 : decode code 771 = .ok (.iconst 0, 1) := by decide +kernel
theorem d_L_law_772 : decode code 772 = .ok (.ireturn, 1) := by decide +kernel
theorem d_L_law_773 : decode code 773 = .ok (.iinc 4 5, 3) := by decide +kernel
theorem d_L_law_776 : decode code 776 = .ok (.goto (-733), 3) := by decide +kernel
theorem d_L_law_779 : decode code 779 = .ok (.iconst 1, 1) := by decide +kernel
theorem d_L_law_780 : decode code 780 = .ok (.ireturn, 1) := by decide +kernel
