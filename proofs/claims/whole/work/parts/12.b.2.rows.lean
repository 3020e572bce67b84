theorem dl_640 : decode code 640 = .ok (.aload_n 1, 1) := by decide +kernel
theorem dl_641 : decode code 641 = .ok (.aload_n 0, 1) := by decide +kernel
theorem dl_642 : decode code 642 = .ok (.iload_n 3, 1) := by decide +kernel
theorem dl_643 : decode code 643 = .ok (.iconst 1, 1) := by decide +kernel
theorem dl_644 : decode code 644 = .ok (.iadd, 1) := by decide +kernel
theorem dl_645 : decode code 645 = .ok (.iaload, 1) := by decide +kernel
theorem dl_646 : decode code 646 = .ok (.aload_n 0, 1) := by decide +kernel
theorem dl_647 : decode code 647 = .ok (.iload_n 3, 1) := by decide +kernel
theorem dl_648 : decode code 648 = .ok (.iconst 2, 1) := by decide +kernel
theorem dl_649 : decode code 649 = .ok (.iadd, 1) := by decide +kernel
theorem dl_650 : decode code 650 = .ok (.iaload, 1) := by decide +kernel
theorem dl_651 : decode code 651 = .ok (.aload_n 0, 1) := by decide +kernel
theorem dl_652 : decode code 652 = .ok (.iload_n 3, 1) := by decide +kernel
theorem dl_653 : decode code 653 = .ok (.iconst 3, 1) := by decide +kernel
theorem dl_654 : decode code 654 = .ok (.iadd, 1) := by decide +kernel
theorem dl_655 : decode code 655 = .ok (.iaload, 1) := by decide +kernel
theorem dl_656 : decode code 656 = .ok (.invokevirtual 89, 3) := by decide +kernel
theorem dl_659 : decode code 659 = .ok (.aload_n 2, 1) := by decide +kernel
theorem dl_660 : decode code 660 = .ok (.aload_n 0, 1) := by decide +kernel
theorem dl_661 : decode code 661 = .ok (.iload_n 3, 1) := by decide +kernel
theorem dl_662 : decode code 662 = .ok (.iconst 1, 1) := by decide +kernel
theorem dl_663 : decode code 663 = .ok (.iadd, 1) := by decide +kernel
theorem dl_664 : decode code 664 = .ok (.iaload, 1) := by decide +kernel
theorem dl_665 : decode code 665 = .ok (.aload_n 0, 1) := by decide +kernel
theorem dl_666 : decode code 666 = .ok (.iload_n 3, 1) := by decide +kernel
theorem dl_667 : decode code 667 = .ok (.iconst 2, 1) := by decide +kernel
theorem dl_668 : decode code 668 = .ok (.iadd, 1) := by decide +kernel
theorem dl_669 : decode code 669 = .ok (.iaload, 1) := by decide +kernel
theorem dl_670 : decode code 670 = .ok (.aload_n 0, 1) := by decide +kernel
theorem dl_671 : decode code 671 = .ok (.iload_n 3, 1) := by decide +kernel
theorem dl_672 : decode code 672 = .ok (.iconst 3, 1) := by decide +kernel
theorem dl_673 : decode code 673 = .ok (.iadd, 1) := by decide +kernel
theorem dl_674 : decode code 674 = .ok (.iaload, 1) := by decide +kernel
theorem dl_675 : decode code 675 = .ok (.invokevirtual 92, 3) := by decide +kernel
theorem dl_678 : decode code 678 = .ok (.if_icmp .eq 209, 3) := by decide +kernel
theorem dl_681 : decode code 681 = .ok (.iconst 0, 1) := by decide +kernel
theorem dl_682 : decode code 682 = .ok (.ireturn, 1) := by decide +kernel
theorem dl_683 : decode code 683 = .ok (.aload_n 1, 1) := by decide +kernel
theorem dl_684 : decode code 684 = .ok (.invokevirtual 93, 3) := by decide +kernel
theorem dl_687 : decode code 687 = .ok (.aload_n 2, 1) := by decide +kernel
theorem dl_688 : decode code 688 = .ok (.invokevirtual 96, 3) := by decide +kernel
theorem dl_691 : decode code 691 = .ok (.if_icmp .eq 196, 3) := by decide +kernel
theorem dl_694 : decode code 694 = .ok (.iconst 0, 1) := by decide +kernel
theorem dl_695 : decode code 695 = .ok (.ireturn, 1) := by decide +kernel
theorem dl_696 : decode code 696 = .ok (.aload_n 1, 1) := by decide +kernel
theorem dl_697 : decode code 697 = .ok (.aload_n 0, 1) := by decide +kernel
theorem dl_698 : decode code 698 = .ok (.iload_n 3, 1) := by decide +kernel
theorem dl_699 : decode code 699 = .ok (.iconst 1, 1) := by decide +kernel
theorem dl_700 : decode code 700 = .ok (.iadd, 1) := by decide +kernel
theorem dl_701 : decode code 701 = .ok (.iaload, 1) := by decide +kernel
theorem dl_702 : decode code 702 = .ok (.invokevirtual 97, 3) := by decide +kernel
theorem dl_705 : decode code 705 = .ok (.aload_n 2, 1) := by decide +kernel
theorem dl_706 : decode code 706 = .ok (.aload_n 0, 1) := by decide +kernel
theorem dl_707 : decode code 707 = .ok (.iload_n 3, 1) := by decide +kernel
theorem dl_708 : decode code 708 = .ok (.iconst 1, 1) := by decide +kernel
theorem dl_709 : decode code 709 = .ok (.iadd, 1) := by decide +kernel
theorem dl_710 : decode code 710 = .ok (.iaload, 1) := by decide +kernel
theorem dl_711 : decode code 711 = .ok (.invokevirtual 100, 3) := by decide +kernel
theorem dl_714 : decode code 714 = .ok (.if_icmp .eq 173, 3) := by decide +kernel
theorem dl_717 : decode code 717 = .ok (.iconst 0, 1) := by decide +kernel
theorem dl_718 : decode code 718 = .ok (.ireturn, 1) := by decide +kernel
theorem dl_719 : decode code 719 = .ok (.aload_n 1, 1) := by decide +kernel
theorem dl_720 : decode code 720 = .ok (.aload_n 0, 1) := by decide +kernel
theorem dl_721 : decode code 721 = .ok (.iload_n 3, 1) := by decide +kernel
theorem dl_722 : decode code 722 = .ok (.iconst 1, 1) := by decide +kernel
theorem dl_723 : decode code 723 = .ok (.iadd, 1) := by decide +kernel
theorem dl_724 : decode code 724 = .ok (.iaload, 1) := by decide +kernel
theorem dl_725 : decode code 725 = .ok (.invokevirtual 101, 3) := by decide +kernel
theorem dl_728 : decode code 728 = .ok (.aload_n 2, 1) := by decide +kernel
theorem dl_729 : decode code 729 = .ok (.aload_n 0, 1) := by decide +kernel
theorem dl_730 : decode code 730 = .ok (.iload_n 3, 1) := by decide +kernel
theorem dl_731 : decode code 731 = .ok (.iconst 1, 1) := by decide +kernel
theorem dl_732 : decode code 732 = .ok (.iadd, 1) := by decide +kernel
theorem dl_733 : decode code 733 = .ok (.iaload, 1) := by decide +kernel
theorem dl_734 : decode code 734 = .ok (.invokevirtual 104, 3) := by decide +kernel
theorem dl_737 : decode code 737 = .ok (.if_icmp .eq 150, 3) := by decide +kernel
theorem dl_740 : decode code 740 = .ok (.iconst 0, 1) := by decide +kernel
theorem dl_741 : decode code 741 = .ok (.ireturn, 1) := by decide +kernel
theorem dl_742 : decode code 742 = .ok (.aload_n 1, 1) := by decide +kernel
theorem dl_743 : decode code 743 = .ok (.aload_n 0, 1) := by decide +kernel
theorem dl_744 : decode code 744 = .ok (.iload_n 3, 1) := by decide +kernel
theorem dl_745 : decode code 745 = .ok (.iconst 1, 1) := by decide +kernel
theorem dl_746 : decode code 746 = .ok (.iadd, 1) := by decide +kernel
theorem dl_747 : decode code 747 = .ok (.iaload, 1) := by decide +kernel
theorem dl_748 : decode code 748 = .ok (.aload_n 0, 1) := by decide +kernel
theorem dl_749 : decode code 749 = .ok (.iload_n 3, 1) := by decide +kernel
theorem dl_750 : decode code 750 = .ok (.iconst 2, 1) := by decide +kernel
theorem dl_751 : decode code 751 = .ok (.iadd, 1) := by decide +kernel
theorem dl_752 : decode code 752 = .ok (.iaload, 1) := by decide +kernel
theorem dl_753 : decode code 753 = .ok (.aload_n 0, 1) := by decide +kernel
theorem dl_754 : decode code 754 = .ok (.iload_n 3, 1) := by decide +kernel
theorem dl_755 : decode code 755 = .ok (.iconst 3, 1) := by decide +kernel
theorem dl_756 : decode code 756 = .ok (.iadd, 1) := by decide +kernel
theorem dl_757 : decode code 757 = .ok (.iaload, 1) := by decide +kernel
theorem dl_758 : decode code 758 = .ok (.aload_n 0, 1) := by decide +kernel
theorem dl_759 : decode code 759 = .ok (.iload_n 3, 1) := by decide +kernel
theorem dl_760 : decode code 760 = .ok (.iconst 4, 1) := by decide +kernel
theorem dl_761 : decode code 761 = .ok (.iadd, 1) := by decide +kernel
theorem dl_762 : decode code 762 = .ok (.iaload, 1) := by decide +kernel
theorem dl_763 : decode code 763 = .ok (.invokevirtual 105, 3) := by decide +kernel
theorem dl_766 : decode code 766 = .ok (.aload_n 2, 1) := by decide +kernel
theorem dl_767 : decode code 767 = .ok (.aload_n 0, 1) := by decide +kernel
theorem dl_768 : decode code 768 = .ok (.iload_n 3, 1) := by decide +kernel
theorem dl_769 : decode code 769 = .ok (.iconst 1, 1) := by decide +kernel
theorem dl_770 : decode code 770 = .ok (.iadd, 1) := by decide +kernel
theorem dl_771 : decode code 771 = .ok (.iaload, 1) := by decide +kernel
theorem dl_772 : decode code 772 = .ok (.aload_n 0, 1) := by decide +kernel
theorem dl_773 : decode code 773 = .ok (.iload_n 3, 1) := by decide +kernel
theorem dl_774 : decode code 774 = .ok (.iconst 2, 1) := by decide +kernel
theorem dl_775 : decode code 775 = .ok (.iadd, 1) := by decide +kernel
theorem dl_776 : decode code 776 = .ok (.iaload, 1) := by decide +kernel
theorem dl_777 : decode code 777 = .ok (.aload_n 0, 1) := by decide +kernel
theorem dl_778 : decode code 778 = .ok (.iload_n 3, 1) := by decide +kernel
theorem dl_779 : decode code 779 = .ok (.iconst 3, 1) := by decide +kernel
theorem dl_780 : decode code 780 = .ok (.iadd, 1) := by decide +kernel
theorem dl_781 : decode code 781 = .ok (.iaload, 1) := by decide +kernel
theorem dl_782 : decode code 782 = .ok (.aload_n 0, 1) := by decide +kernel
theorem dl_783 : decode code 783 = .ok (.iload_n 3, 1) := by decide +kernel
theorem dl_784 : decode code 784 = .ok (.iconst 4, 1) := by decide +kernel
theorem dl_785 : decode code 785 = .ok (.iadd, 1) := by decide +kernel
theorem dl_786 : decode code 786 = .ok (.iaload, 1) := by decide +kernel
theorem dl_787 : decode code 787 = .ok (.invokevirtual 109, 3) := by decide +kernel
theorem dl_790 : decode code 790 = .ok (.if_icmp .eq 97, 3) := by decide +kernel
theorem dl_793 : decode code 793 = .ok (.iconst 0, 1) := by decide +kernel
theorem dl_794 : decode code 794 = .ok (.ireturn, 1) := by decide +kernel
theorem dl_795 : decode code 795 = .ok (.aload_n 1, 1) := by decide +kernel
theorem dl_796 : decode code 796 = .ok (.aload_n 0, 1) := by decide +kernel
theorem dl_797 : decode code 797 = .ok (.iload_n 3, 1) := by decide +kernel
theorem dl_798 : decode code 798 = .ok (.iconst 1, 1) := by decide +kernel
theorem dl_799 : decode code 799 = .ok (.iadd, 1) := by decide +kernel
theorem dl_800 : decode code 800 = .ok (.iaload, 1) := by decide +kernel
theorem dl_801 : decode code 801 = .ok (.aload_n 0, 1) := by decide +kernel
theorem dl_802 : decode code 802 = .ok (.iload_n 3, 1) := by decide +kernel
theorem dl_803 : decode code 803 = .ok (.iconst 2, 1) := by decide +kernel
theorem dl_804 : decode code 804 = .ok (.iadd, 1) := by decide +kernel
theorem dl_805 : decode code 805 = .ok (.iaload, 1) := by decide +kernel
theorem dl_806 : decode code 806 = .ok (.aload_n 0, 1) := by decide +kernel
theorem dl_807 : decode code 807 = .ok (.iload_n 3, 1) := by decide +kernel
theorem dl_808 : decode code 808 = .ok (.iconst 3, 1) := by decide +kernel
theorem dl_809 : decode code 809 = .ok (.iadd, 1) := by decide +kernel
theorem dl_810 : decode code 810 = .ok (.iaload, 1) := by decide +kernel
theorem dl_811 : decode code 811 = .ok (.invokevirtual 110, 3) := by decide +kernel
theorem dl_814 : decode code 814 = .ok (.aload_n 2, 1) := by decide +kernel
theorem dl_815 : decode code 815 = .ok (.aload_n 0, 1) := by decide +kernel
theorem dl_816 : decode code 816 = .ok (.iload_n 3, 1) := by decide +kernel
theorem dl_817 : decode code 817 = .ok (.iconst 1, 1) := by decide +kernel
theorem dl_818 : decode code 818 = .ok (.iadd, 1) := by decide +kernel
theorem dl_819 : decode code 819 = .ok (.iaload, 1) := by decide +kernel
theorem dl_820 : decode code 820 = .ok (.aload_n 0, 1) := by decide +kernel
theorem dl_821 : decode code 821 = .ok (.iload_n 3, 1) := by decide +kernel
theorem dl_822 : decode code 822 = .ok (.iconst 2, 1) := by decide +kernel
theorem dl_823 : decode code 823 = .ok (.iadd, 1) := by decide +kernel
theorem dl_824 : decode code 824 = .ok (.iaload, 1) := by decide +kernel
theorem dl_825 : decode code 825 = .ok (.aload_n 0, 1) := by decide +kernel
theorem dl_826 : decode code 826 = .ok (.iload_n 3, 1) := by decide +kernel
theorem dl_827 : decode code 827 = .ok (.iconst 3, 1) := by decide +kernel
theorem dl_828 : decode code 828 = .ok (.iadd, 1) := by decide +kernel
theorem dl_829 : decode code 829 = .ok (.iaload, 1) := by decide +kernel
theorem dl_830 : decode code 830 = .ok (.invokevirtual 113, 3) := by decide +kernel
theorem dl_833 : decode code 833 = .ok (.if_icmp .eq 54, 3) := by decide +kernel
theorem dl_836 : decode code 836 = .ok (.iconst 0, 1) := by decide +kernel
theorem dl_837 : decode code 837 = .ok (.ireturn, 1) := by decide +kernel
theorem dl_838 : decode code 838 = .ok (.aload_n 1, 1) := by decide +kernel
theorem dl_839 : decode code 839 = .ok (.invokevirtual 114, 3) := by decide +kernel
theorem dl_842 : decode code 842 = .ok (.aload_n 2, 1) := by decide +kernel
theorem dl_843 : decode code 843 = .ok (.invokevirtual 117, 3) := by decide +kernel
theorem dl_846 : decode code 846 = .ok (.if_icmp .eq 41, 3) := by decide +kernel
theorem dl_849 : decode code 849 = .ok (.iconst 0, 1) := by decide +kernel
theorem dl_850 : decode code 850 = .ok (.ireturn, 1) := by decide +kernel
theorem dl_851 : decode code 851 = .ok (.aload_n 1, 1) := by decide +kernel
theorem dl_852 : decode code 852 = .ok (.invokevirtual 118, 3) := by decide +kernel
theorem dl_855 : decode code 855 = .ok (.aload_n 2, 1) := by decide +kernel
theorem dl_856 : decode code 856 = .ok (.invokevirtual 121, 3) := by decide +kernel
theorem dl_859 : decode code 859 = .ok (.if_icmp .eq 28, 3) := by decide +kernel
theorem dl_862 : decode code 862 = .ok (.iconst 0, 1) := by decide +kernel
theorem dl_863 : decode code 863 = .ok (.ireturn, 1) := by decide +kernel
theorem dl_864 : decode code 864 = .ok (.aload_n 1, 1) := by decide +kernel
theorem dl_865 : decode code 865 = .ok (.aload_n 0, 1) := by decide +kernel
theorem dl_866 : decode code 866 = .ok (.iload_n 3, 1) := by decide +kernel
theorem dl_867 : decode code 867 = .ok (.iconst 1, 1) := by decide +kernel
theorem dl_868 : decode code 868 = .ok (.iadd, 1) := by decide +kernel
theorem dl_869 : decode code 869 = .ok (.iaload, 1) := by decide +kernel
theorem dl_870 : decode code 870 = .ok (.invokevirtual 122, 3) := by decide +kernel
theorem dl_873 : decode code 873 = .ok (.aload_n 2, 1) := by decide +kernel
theorem dl_874 : decode code 874 = .ok (.aload_n 0, 1) := by decide +kernel
theorem dl_875 : decode code 875 = .ok (.iload_n 3, 1) := by decide +kernel
theorem dl_876 : decode code 876 = .ok (.iconst 1, 1) := by decide +kernel
theorem dl_877 : decode code 877 = .ok (.iadd, 1) := by decide +kernel
theorem dl_878 : decode code 878 = .ok (.iaload, 1) := by decide +kernel
theorem dl_879 : decode code 879 = .ok (.invokevirtual 125, 3) := by decide +kernel
theorem dl_882 : decode code 882 = .ok (.if_icmp .eq 5, 3) := by decide +kernel
theorem dl_885 : decode code 885 = .ok (.iconst 0, 1) := by decide +kernel
theorem dl_886 : decode code 886 = .ok (.ireturn, 1) := by decide +kernel
theorem dl_887 : decode code 887 = .ok (.iinc 3 5, 3) := by decide +kernel
theorem dl_890 : decode code 890 = .ok (.goto (-872), 3) := by decide +kernel
theorem dl_893 : decode code 893 = .ok (.iconst 1, 1) := by decide +kernel
theorem dl_894 : decode code 894 = .ok (.ireturn, 1) := by decide +kernel
