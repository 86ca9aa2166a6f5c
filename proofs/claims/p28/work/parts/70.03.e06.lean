theorem dL_acts_560 : decode cL_acts 560 = .ok (.invokevirtual 92, 3) := by decide +kernel
theorem dL_acts_563 : decode cL_acts 563 = .ok (.iload 6, 2) := by decide +kernel
theorem dL_acts_565 : decode cL_acts 565 = .ok (.ifCond .eq 7, 3) := by decide +kernel
theorem dL_acts_568 : decode cL_acts 568 = .ok (.iconst (-1), 1) := by decide +kernel
theorem dL_acts_569 : decode cL_acts 569 = .ok (.goto 5, 3) := by decide +kernel
theorem dL_acts_572 : decode cL_acts 572 = .ok (.iload 7, 2) := by decide +kernel
theorem dL_acts_574 : decode cL_acts 574 = .ok (.if_icmp .ne 28, 3) := by decide +kernel
theorem dL_acts_577 : decode cL_acts 577 = .ok (.aload_n 0, 1) := by decide +kernel
theorem dL_acts_578 : decode cL_acts 578 = .ok (.bipush 17, 2) := by decide +kernel
theorem dL_acts_580 : decode cL_acts 580 = .ok (.invokevirtual 13, 3) := by decide +kernel
theorem dL_acts_583 : decode cL_acts 583 = .ok (.iload 6, 2) := by decide +kernel
theorem dL_acts_585 : decode cL_acts 585 = .ok (.ifCond .eq 8, 3) := by decide +kernel
theorem dL_acts_588 : decode cL_acts 588 = .ok (.iload 7, 2) := by decide +kernel
theorem dL_acts_590 : decode cL_acts 590 = .ok (.goto 5, 3) := by decide +kernel
theorem dL_acts_593 : decode cL_acts 593 = .ok (.iload 5, 2) := by decide +kernel
theorem dL_acts_595 : decode cL_acts 595 = .ok (.if_icmp .ne 7, 3) := by decide +kernel
theorem dL_acts_598 : decode cL_acts 598 = .ok (.iconst 1, 1) := by decide +kernel
theorem dL_acts_599 : decode cL_acts 599 = .ok (.goto 4, 3) := by decide +kernel
theorem dL_acts_602 : decode cL_acts 602 = .ok (.iconst 0, 1) := by decide +kernel
theorem dL_acts_603 : decode cL_acts 603 = .ok (.ireturn, 1) := by decide +kernel
theorem dL_acts_604 : decode cL_acts 604 = .ok (.iload_n 3, 1) := by decide +kernel
theorem dL_acts_605 : decode cL_acts 605 = .ok (.bipush 19, 2) := by decide +kernel
theorem dL_acts_607 : decode cL_acts 607 = .ok (.if_icmp .ge 185, 3) := by decide +kernel
theorem dL_acts_610 : decode cL_acts 610 = .ok (.iload_n 2, 1) := by decide +kernel
theorem dL_acts_611 : decode cL_acts 611 = .ok (.iconst 5, 1) := by decide +kernel
theorem dL_acts_612 : decode cL_acts 612 = .ok (.invokestatic 38, 3) := by decide +kernel
theorem dL_acts_615 : decode cL_acts 615 = .ok (.istore 5, 2) := by decide +kernel
theorem dL_acts_617 : decode cL_acts 617 = .ok (.iload_n 2, 1) := by decide +kernel
theorem dL_acts_618 : decode cL_acts 618 = .ok (.iconst 3, 1) := by decide +kernel
theorem dL_acts_619 : decode cL_acts 619 = .ok (.ishr, 1) := by decide +kernel
theorem dL_acts_620 : decode cL_acts 620 = .ok (.iload_n 2, 1) := by decide +kernel
theorem dL_acts_621 : decode cL_acts 621 = .ok (.bipush 12, 2) := by decide +kernel
theorem dL_acts_623 : decode cL_acts 623 = .ok (.ishr, 1) := by decide +kernel
theorem dL_acts_624 : decode cL_acts 624 = .ok (.iconst 2, 1) := by decide +kernel
theorem dL_acts_625 : decode cL_acts 625 = .ok (.invokestatic 38, 3) := by decide +kernel
theorem dL_acts_628 : decode cL_acts 628 = .ok (.ifCond .ne 9, 3) := by decide +kernel
theorem dL_acts_631 : decode cL_acts 631 = .ok (.sipush 203, 3) := by decide +kernel
theorem dL_acts_634 : decode cL_acts 634 = .ok (.goto 5, 3) := by decide +kernel
theorem dL_acts_637 : decode cL_acts 637 = .ok (.bipush 6, 2) := by decide +kernel
theorem dL_acts_639 : decode cL_acts 639 = .ok (.invokestatic 38, 3) := by decide +kernel
theorem dL_acts_642 : decode cL_acts 642 = .ok (.iconst 1, 1) := by decide +kernel
theorem dL_acts_643 : decode cL_acts 643 = .ok (.isub, 1) := by decide +kernel
theorem dL_acts_644 : decode cL_acts 644 = .ok (.istore 6, 2) := by decide +kernel
theorem dL_acts_646 : decode cL_acts 646 = .ok (.iload 5, 2) := by decide +kernel
theorem dL_acts_648 : decode cL_acts 648 = .ok (.iconst 4, 1) := by decide +kernel
theorem dL_acts_649 : decode cL_acts 649 = .ok (.if_icmp .eq 57, 3) := by decide +kernel
theorem dL_acts_652 : decode cL_acts 652 = .ok (.iload 6, 2) := by decide +kernel
theorem dL_acts_654 : decode cL_acts 654 = .ok (.iload 5, 2) := by decide +kernel
theorem dL_acts_656 : decode cL_acts 656 = .ok (.ifCond .ne 7, 3) := by decide +kernel
theorem dL_acts_659 : decode cL_acts 659 = .ok (.iconst 1, 1) := by decide +kernel
theorem dL_acts_660 : decode cL_acts 660 = .ok (.goto 15, 3) := by decide +kernel
theorem dL_acts_663 : decode cL_acts 663 = .ok (.iload 5, 2) := by decide +kernel
theorem dL_acts_665 : decode cL_acts 665 = .ok (.iconst 1, 1) := by decide +kernel
theorem dL_acts_666 : decode cL_acts 666 = .ok (.if_icmp .ne 8, 3) := by decide +kernel
theorem dL_acts_669 : decode cL_acts 669 = .ok (.bipush 10, 2) := by decide +kernel
theorem dL_acts_671 : decode cL_acts 671 = .ok (.goto 4, 3) := by decide +kernel
theorem dL_acts_674 : decode cL_acts 674 = .ok (.iconst 0, 1) := by decide +kernel
theorem dL_acts_675 : decode cL_acts 675 = .ok (.if_icmp .lt 31, 3) := by decide +kernel
theorem dL_acts_678 : decode cL_acts 678 = .ok (.iload 6, 2) := by decide +kernel
theorem dL_acts_680 : decode cL_acts 680 = .ok (.iload 5, 2) := by decide +kernel
theorem dL_acts_682 : decode cL_acts 682 = .ok (.iconst 1, 1) := by decide +kernel
theorem dL_acts_683 : decode cL_acts 683 = .ok (.if_icmp .ne 9, 3) := by decide +kernel
theorem dL_acts_686 : decode cL_acts 686 = .ok (.sipush 200, 3) := by decide +kernel
theorem dL_acts_689 : decode cL_acts 689 = .ok (.goto 14, 3) := by decide +kernel
theorem dL_acts_692 : decode cL_acts 692 = .ok (.iload 5, 2) := by decide +kernel
theorem dL_acts_694 : decode cL_acts 694 = .ok (.iconst 3, 1) := by decide +kernel
theorem dL_acts_695 : decode cL_acts 695 = .ok (.if_icmp .ne 7, 3) := by decide +kernel
theorem dL_acts_698 : decode cL_acts 698 = .ok (.iconst 3, 1) := by decide +kernel
theorem dL_acts_699 : decode cL_acts 699 = .ok (.goto 4, 3) := by decide +kernel
theorem dL_acts_702 : decode cL_acts 702 = .ok (.iconst 4, 1) := by decide +kernel
theorem dL_acts_703 : decode cL_acts 703 = .ok (.if_icmp .le 7, 3) := by decide +kernel
theorem dL_acts_706 : decode cL_acts 706 = .ok (.iconst 1, 1) := by decide +kernel
theorem dL_acts_707 : decode cL_acts 707 = .ok (.goto 4, 3) := by decide +kernel
theorem dL_acts_710 : decode cL_acts 710 = .ok (.iconst 0, 1) := by decide +kernel
theorem dL_acts_711 : decode cL_acts 711 = .ok (.istore 7, 2) := by decide +kernel
theorem dL_acts_713 : decode cL_acts 713 = .ok (.iload 5, 2) := by decide +kernel
theorem dL_acts_715 : decode cL_acts 715 = .ok (.iconst 4, 1) := by decide +kernel
theorem dL_acts_716 : decode cL_acts 716 = .ok (.if_icmp .ne 7, 3) := by decide +kernel
theorem dL_acts_719 : decode cL_acts 719 = .ok (.iconst 0, 1) := by decide +kernel
theorem dL_acts_720 : decode cL_acts 720 = .ok (.goto 12, 3) := by decide +kernel
theorem dL_acts_723 : decode cL_acts 723 = .ok (.aload_n 0, 1) := by decide +kernel
theorem dL_acts_724 : decode cL_acts 724 = .ok (.bipush 13, 2) := by decide +kernel
theorem dL_acts_726 : decode cL_acts 726 = .ok (.iload 5, 2) := by decide +kernel
theorem dL_acts_728 : decode cL_acts 728 = .ok (.iadd, 1) := by decide +kernel
theorem dL_acts_729 : decode cL_acts 729 = .ok (.invokevirtual 13, 3) := by decide +kernel
theorem dL_acts_732 : decode cL_acts 732 = .ok (.istore 8, 2) := by decide +kernel
theorem dL_acts_734 : decode cL_acts 734 = .ok (.aload_n 0, 1) := by decide +kernel
theorem dL_acts_735 : decode cL_acts 735 = .ok (.iload 5, 2) := by decide +kernel
theorem dL_acts_737 : decode cL_acts 737 = .ok (.iload 6, 2) := by decide +kernel
theorem dL_acts_739 : decode cL_acts 739 = .ok (.invokevirtual 95, 3) := by decide +kernel
theorem dL_acts_742 : decode cL_acts 742 = .ok (.iload 7, 2) := by decide +kernel
theorem dL_acts_744 : decode cL_acts 744 = .ok (.ifCond .eq 7, 3) := by decide +kernel
theorem dL_acts_747 : decode cL_acts 747 = .ok (.iconst (-1), 1) := by decide +kernel
theorem dL_acts_748 : decode cL_acts 748 = .ok (.goto 5, 3) := by decide +kernel
theorem dL_acts_751 : decode cL_acts 751 = .ok (.iload 8, 2) := by decide +kernel
theorem dL_acts_753 : decode cL_acts 753 = .ok (.if_icmp .ne 37, 3) := by decide +kernel
theorem dL_acts_756 : decode cL_acts 756 = .ok (.iload 5, 2) := by decide +kernel
theorem dL_acts_758 : decode cL_acts 758 = .ok (.iconst 4, 1) := by decide +kernel
theorem dL_acts_759 : decode cL_acts 759 = .ok (.if_icmp .eq 27, 3) := by decide +kernel
theorem dL_acts_762 : decode cL_acts 762 = .ok (.aload_n 0, 1) := by decide +kernel
theorem dL_acts_763 : decode cL_acts 763 = .ok (.bipush 13, 2) := by decide +kernel
theorem dL_acts_765 : decode cL_acts 765 = .ok (.iload 5, 2) := by decide +kernel
theorem dL_acts_767 : decode cL_acts 767 = .ok (.iadd, 1) := by decide +kernel
theorem dL_acts_768 : decode cL_acts 768 = .ok (.invokevirtual 13, 3) := by decide +kernel
theorem dL_acts_771 : decode cL_acts 771 = .ok (.iload 7, 2) := by decide +kernel
theorem dL_acts_773 : decode cL_acts 773 = .ok (.ifCond .eq 8, 3) := by decide +kernel
theorem dL_acts_776 : decode cL_acts 776 = .ok (.iload 8, 2) := by decide +kernel
theorem dL_acts_778 : decode cL_acts 778 = .ok (.goto 5, 3) := by decide +kernel
theorem dL_acts_781 : decode cL_acts 781 = .ok (.iload 6, 2) := by decide +kernel
theorem dL_acts_783 : decode cL_acts 783 = .ok (.if_icmp .ne 7, 3) := by decide +kernel
theorem dL_acts_786 : decode cL_acts 786 = .ok (.iconst 1, 1) := by decide +kernel
theorem dL_acts_787 : decode cL_acts 787 = .ok (.goto 4, 3) := by decide +kernel
theorem dL_acts_790 : decode cL_acts 790 = .ok (.iconst 0, 1) := by decide +kernel
theorem dL_acts_791 : decode cL_acts 791 = .ok (.ireturn, 1) := by decide +kernel
theorem dL_acts_792 : decode cL_acts 792 = .ok (.iload_n 3, 1) := by decide +kernel
theorem dL_acts_793 : decode cL_acts 793 = .ok (.bipush 23, 2) := by decide +kernel
theorem dL_acts_795 : decode cL_acts 795 = .ok (.if_icmp .ge 9, 3) := by decide +kernel
theorem dL_acts_798 : decode cL_acts 798 = .ok (.aload_n 0, 1) := by decide +kernel
theorem dL_acts_799 : decode cL_acts 799 = .ok (.iload_n 2, 1) := by decide +kernel
theorem dL_acts_800 : decode cL_acts 800 = .ok (.invokestatic 98, 3) := by decide +kernel
theorem dL_acts_803 : decode cL_acts 803 = .ok (.ireturn, 1) := by decide +kernel
theorem dL_acts_804 : decode cL_acts 804 = .ok (.iload_n 2, 1) := by decide +kernel
theorem dL_acts_805 : decode cL_acts 805 = .ok (.iconst 4, 1) := by decide +kernel
theorem dL_acts_806 : decode cL_acts 806 = .ok (.invokestatic 38, 3) := by decide +kernel
theorem dL_acts_809 : decode cL_acts 809 = .ok (.istore 5, 2) := by decide +kernel
theorem dL_acts_811 : decode cL_acts 811 = .ok (.aload_n 0, 1) := by decide +kernel
theorem dL_acts_812 : decode cL_acts 812 = .ok (.bipush 17, 2) := by decide +kernel
theorem dL_acts_814 : decode cL_acts 814 = .ok (.invokevirtual 13, 3) := by decide +kernel
theorem dL_acts_817 : decode cL_acts 817 = .ok (.istore 6, 2) := by decide +kernel
theorem dL_acts_819 : decode cL_acts 819 = .ok (.iload_n 2, 1) := by decide +kernel
theorem dL_acts_820 : decode cL_acts 820 = .ok (.iconst 3, 1) := by decide +kernel
theorem dL_acts_821 : decode cL_acts 821 = .ok (.ishr, 1) := by decide +kernel
theorem dL_acts_822 : decode cL_acts 822 = .ok (.iconst 2, 1) := by decide +kernel
theorem dL_acts_823 : decode cL_acts 823 = .ok (.invokestatic 38, 3) := by decide +kernel
theorem dL_acts_826 : decode cL_acts 826 = .ok (.ifCond .ne 7, 3) := by decide +kernel
theorem dL_acts_829 : decode cL_acts 829 = .ok (.iconst 0, 1) := by decide +kernel
theorem dL_acts_830 : decode cL_acts 830 = .ok (.goto 9, 3) := by decide +kernel
theorem dL_acts_833 : decode cL_acts 833 = .ok (.aload_n 0, 1) := by decide +kernel
theorem dL_acts_834 : decode cL_acts 834 = .ok (.iload 5, 2) := by decide +kernel
theorem dL_acts_836 : decode cL_acts 836 = .ok (.invokevirtual 101, 3) := by decide +kernel
theorem dL_acts_839 : decode cL_acts 839 = .ok (.istore 7, 2) := by decide +kernel
theorem dL_acts_841 : decode cL_acts 841 = .ok (.iload_n 2, 1) := by decide +kernel
theorem dL_acts_842 : decode cL_acts 842 = .ok (.iconst 3, 1) := by decide +kernel
theorem dL_acts_843 : decode cL_acts 843 = .ok (.ishr, 1) := by decide +kernel
theorem dL_acts_844 : decode cL_acts 844 = .ok (.iconst 2, 1) := by decide +kernel
theorem dL_acts_845 : decode cL_acts 845 = .ok (.invokestatic 38, 3) := by decide +kernel
theorem dL_acts_848 : decode cL_acts 848 = .ok (.ifCond .eq 114, 3) := by decide +kernel
theorem dL_acts_851 : decode cL_acts 851 = .ok (.iload 5, 2) := by decide +kernel
theorem dL_acts_853 : decode cL_acts 853 = .ok (.iconst 3, 1) := by decide +kernel
theorem dL_acts_854 : decode cL_acts 854 = .ok (.if_icmp .ne 12, 3) := by decide +kernel
