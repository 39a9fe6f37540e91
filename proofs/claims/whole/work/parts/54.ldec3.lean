theorem dW_law_612 : decode code 612 = .ok (.invokevirtual 96, 3) := by decide +kernel
theorem dW_law_615 : decode code 615 = .ok (.istore 6, 2) := by decide +kernel
theorem dW_law_617 : decode code 617 = .ok (.aload_n 2, 1) := by decide +kernel
theorem dW_law_618 : decode code 618 = .ok (.invokevirtual 69, 3) := by decide +kernel
theorem dW_law_621 : decode code 621 = .ok (.iload 5, 2) := by decide +kernel
theorem dW_law_623 : decode code 623 = .ok (.if_icmp .eq 5, 3) := by decide +kernel
theorem dW_law_626 : decode code 626 = .ok (.iconst 0, 1) := by decide +kernel
theorem dW_law_627 : decode code 627 = .ok (.ireturn, 1) := by decide +kernel
theorem dW_law_628 : decode code 628 = .ok (.iload 5, 2) := by decide +kernel
theorem dW_law_630 : decode code 630 = .ok (.ifCond .ne 15, 3) := by decide +kernel
theorem dW_law_633 : decode code 633 = .ok (.aload_n 3, 1) := by decide +kernel
theorem dW_law_634 : decode code 634 = .ok (.iconst 0, 1) := by decide +kernel
theorem dW_law_635 : decode code 635 = .ok (.laload, 1) := by decide +kernel
theorem dW_law_636 : decode code 636 = .ok (.iload 6, 2) := by decide +kernel
theorem dW_law_638 : decode code 638 = .ok (.i2l, 1) := by decide +kernel
theorem dW_law_639 : decode code 639 = .ok (.lcmp, 1) := by decide +kernel
theorem dW_law_640 : decode code 640 = .ok (.ifCond .eq 5, 3) := by decide +kernel
theorem dW_law_643 : decode code 643 = .ok (.iconst 0, 1) := by decide +kernel
theorem dW_law_644 : decode code 644 = .ok (.ireturn, 1) := by decide +kernel
theorem dW_law_645 : decode code 645 = .ok (.goto 313, 3) := by decide +kernel
theorem dW_law_648 : decode code 648 = .ok (.aload_n 1, 1) := by decide +kernel
theorem dW_law_649 : decode code 649 = .ok (.aload_n 0, 1) := by decide +kernel
theorem dW_law_650 : decode code 650 = .ok (.iload 4, 2) := by decide +kernel
theorem dW_law_652 : decode code 652 = .ok (.iconst 1, 1) := by decide +kernel
theorem dW_law_653 : decode code 653 = .ok (.iadd, 1) := by decide +kernel
theorem dW_law_654 : decode code 654 = .ok (.iaload, 1) := by decide +kernel
theorem dW_law_655 : decode code 655 = .ok (.invokevirtual 97, 3) := by decide +kernel
theorem dW_law_658 : decode code 658 = .ok (.aload_n 2, 1) := by decide +kernel
theorem dW_law_659 : decode code 659 = .ok (.aload_n 0, 1) := by decide +kernel
theorem dW_law_660 : decode code 660 = .ok (.iload 4, 2) := by decide +kernel
theorem dW_law_662 : decode code 662 = .ok (.iconst 1, 1) := by decide +kernel
theorem dW_law_663 : decode code 663 = .ok (.iadd, 1) := by decide +kernel
theorem dW_law_664 : decode code 664 = .ok (.iaload, 1) := by decide +kernel
theorem dW_law_665 : decode code 665 = .ok (.invokevirtual 100, 3) := by decide +kernel
theorem dW_law_668 : decode code 668 = .ok (.if_icmp .eq 290, 3) := by decide +kernel
theorem dW_law_671 : decode code 671 = .ok (.iconst 0, 1) := by decide +kernel
theorem dW_law_672 : decode code 672 = .ok (.ireturn, 1) := by decide +kernel
theorem dW_law_673 : decode code 673 = .ok (.aload_n 1, 1) := by decide +kernel
theorem dW_law_674 : decode code 674 = .ok (.aload_n 0, 1) := by decide +kernel
theorem dW_law_675 : decode code 675 = .ok (.iload 4, 2) := by decide +kernel
theorem dW_law_677 : decode code 677 = .ok (.iconst 1, 1) := by decide +kernel
theorem dW_law_678 : decode code 678 = .ok (.iadd, 1) := by decide +kernel
theorem dW_law_679 : decode code 679 = .ok (.iaload, 1) := by decide +kernel
theorem dW_law_680 : decode code 680 = .ok (.aload_n 3, 1) := by decide +kernel
theorem dW_law_681 : decode code 681 = .ok (.invokestatic 101, 3) := by decide +kernel
theorem dW_law_684 : decode code 684 = .ok (.istore 5, 2) := by decide +kernel
theorem dW_law_686 : decode code 686 = .ok (.aload_n 2, 1) := by decide +kernel
theorem dW_law_687 : decode code 687 = .ok (.aload_n 0, 1) := by decide +kernel
theorem dW_law_688 : decode code 688 = .ok (.iload 4, 2) := by decide +kernel
theorem dW_law_690 : decode code 690 = .ok (.iconst 1, 1) := by decide +kernel
theorem dW_law_691 : decode code 691 = .ok (.iadd, 1) := by decide +kernel
theorem dW_law_692 : decode code 692 = .ok (.iaload, 1) := by decide +kernel
theorem dW_law_693 : decode code 693 = .ok (.invokevirtual 104, 3) := by decide +kernel
theorem dW_law_696 : decode code 696 = .ok (.istore 6, 2) := by decide +kernel
theorem dW_law_698 : decode code 698 = .ok (.aload_n 2, 1) := by decide +kernel
theorem dW_law_699 : decode code 699 = .ok (.invokevirtual 69, 3) := by decide +kernel
theorem dW_law_702 : decode code 702 = .ok (.iload 5, 2) := by decide +kernel
theorem dW_law_704 : decode code 704 = .ok (.if_icmp .eq 5, 3) := by decide +kernel
theorem dW_law_707 : decode code 707 = .ok (.iconst 0, 1) := by decide +kernel
theorem dW_law_708 : decode code 708 = .ok (.ireturn, 1) := by decide +kernel
theorem dW_law_709 : decode code 709 = .ok (.iload 5, 2) := by decide +kernel
theorem dW_law_711 : decode code 711 = .ok (.ifCond .ne 15, 3) := by decide +kernel
theorem dW_law_714 : decode code 714 = .ok (.aload_n 3, 1) := by decide +kernel
theorem dW_law_715 : decode code 715 = .ok (.iconst 0, 1) := by decide +kernel
theorem dW_law_716 : decode code 716 = .ok (.laload, 1) := by decide +kernel
theorem dW_law_717 : decode code 717 = .ok (.iload 6, 2) := by decide +kernel
theorem dW_law_719 : decode code 719 = .ok (.i2l, 1) := by decide +kernel
theorem dW_law_720 : decode code 720 = .ok (.lcmp, 1) := by decide +kernel
theorem dW_law_721 : decode code 721 = .ok (.ifCond .eq 5, 3) := by decide +kernel
theorem dW_law_724 : decode code 724 = .ok (.iconst 0, 1) := by decide +kernel
theorem dW_law_725 : decode code 725 = .ok (.ireturn, 1) := by decide +kernel
theorem dW_law_726 : decode code 726 = .ok (.goto 232, 3) := by decide +kernel
theorem dW_law_729 : decode code 729 = .ok (.aload_n 1, 1) := by decide +kernel
theorem dW_law_730 : decode code 730 = .ok (.aload_n 0, 1) := by decide +kernel
theorem dW_law_731 : decode code 731 = .ok (.iload 4, 2) := by decide +kernel
theorem dW_law_733 : decode code 733 = .ok (.iconst 1, 1) := by decide +kernel
theorem dW_law_734 : decode code 734 = .ok (.iadd, 1) := by decide +kernel
theorem dW_law_735 : decode code 735 = .ok (.iaload, 1) := by decide +kernel
theorem dW_law_736 : decode code 736 = .ok (.aload_n 0, 1) := by decide +kernel
theorem dW_law_737 : decode code 737 = .ok (.iload 4, 2) := by decide +kernel
theorem dW_law_739 : decode code 739 = .ok (.iconst 2, 1) := by decide +kernel
theorem dW_law_740 : decode code 740 = .ok (.iadd, 1) := by decide +kernel
theorem dW_law_741 : decode code 741 = .ok (.iaload, 1) := by decide +kernel
theorem dW_law_742 : decode code 742 = .ok (.aload_n 3, 1) := by decide +kernel
theorem dW_law_743 : decode code 743 = .ok (.invokestatic 105, 3) := by decide +kernel
theorem dW_law_746 : decode code 746 = .ok (.istore 5, 2) := by decide +kernel
theorem dW_law_748 : decode code 748 = .ok (.aload_n 2, 1) := by decide +kernel
theorem dW_law_749 : decode code 749 = .ok (.aload_n 0, 1) := by decide +kernel
theorem dW_law_750 : decode code 750 = .ok (.iload 4, 2) := by decide +kernel
theorem dW_law_752 : decode code 752 = .ok (.iconst 1, 1) := by decide +kernel
theorem dW_law_753 : decode code 753 = .ok (.iadd, 1) := by decide +kernel
theorem dW_law_754 : decode code 754 = .ok (.iaload, 1) := by decide +kernel
theorem dW_law_755 : decode code 755 = .ok (.aload_n 0, 1) := by decide +kernel
theorem dW_law_756 : decode code 756 = .ok (.iload 4, 2) := by decide +kernel
theorem dW_law_758 : decode code 758 = .ok (.iconst 2, 1) := by decide +kernel
theorem dW_law_759 : decode code 759 = .ok (.iadd, 1) := by decide +kernel
theorem dW_law_760 : decode code 760 = .ok (.iaload, 1) := by decide +kernel
theorem dW_law_761 : decode code 761 = .ok (.invokevirtual 107, 3) := by decide +kernel
theorem dW_law_764 : decode code 764 = .ok (.istore 6, 2) := by decide +kernel
theorem dW_law_766 : decode code 766 = .ok (.aload_n 2, 1) := by decide +kernel
theorem dW_law_767 : decode code 767 = .ok (.invokevirtual 69, 3) := by decide +kernel
theorem dW_law_770 : decode code 770 = .ok (.iload 5, 2) := by decide +kernel
theorem dW_law_772 : decode code 772 = .ok (.if_icmp .eq 5, 3) := by decide +kernel
theorem dW_law_775 : decode code 775 = .ok (.iconst 0, 1) := by decide +kernel
theorem dW_law_776 : decode code 776 = .ok (.ireturn, 1) := by decide +kernel
theorem dW_law_777 : decode code 777 = .ok (.iload 5, 2) := by decide +kernel
theorem dW_law_779 : decode code 779 = .ok (.ifCond .ne 15, 3) := by decide +kernel
theorem dW_law_782 : decode code 782 = .ok (.aload_n 3, 1) := by decide +kernel
theorem dW_law_783 : decode code 783 = .ok (.iconst 0, 1) := by decide +kernel
theorem dW_law_784 : decode code 784 = .ok (.laload, 1) := by decide +kernel
theorem dW_law_785 : decode code 785 = .ok (.iload 6, 2) := by decide +kernel
theorem dW_law_787 : decode code 787 = .ok (.i2l, 1) := by decide +kernel
theorem dW_law_788 : decode code 788 = .ok (.lcmp, 1) := by decide +kernel
theorem dW_law_789 : decode code 789 = .ok (.ifCond .eq 5, 3) := by decide +kernel
theorem dW_law_792 : decode code 792 = .ok (.iconst 0, 1) := by decide +kernel
theorem dW_law_793 : decode code 793 = .ok (.ireturn, 1) := by decide +kernel
theorem dW_law_794 : decode code 794 = .ok (.goto 164, 3) := by decide +kernel
theorem dW_law_797 : decode code 797 = .ok (.aload_n 1, 1) := by decide +kernel
theorem dW_law_798 : decode code 798 = .ok (.aload_n 0, 1) := by decide +kernel
theorem dW_law_799 : decode code 799 = .ok (.iload 4, 2) := by decide +kernel
