theorem d_law_660 : decode code 660 = .ok (.iconst 2, 1) := by decide +kernel
theorem d_law_661 : decode code 661 = .ok (.iadd, 1) := by decide +kernel
theorem d_law_662 : decode code 662 = .ok (.iaload, 1) := by decide +kernel
theorem d_law_663 : decode code 663 = .ok (.aload_n 3, 1) := by decide +kernel
theorem d_law_664 : decode code 664 = .ok (.invokestatic 97, 3) := by decide +kernel
theorem d_law_667 : decode code 667 = .ok (.istore 5, 2) := by decide +kernel
theorem d_law_669 : decode code 669 = .ok (.aload_n 2, 1) := by decide +kernel
theorem d_law_670 : decode code 670 = .ok (.aload_n 0, 1) := by decide +kernel
theorem d_law_671 : decode code 671 = .ok (.iload 4, 2) := by decide +kernel
theorem d_law_673 : decode code 673 = .ok (.iconst 1, 1) := by decide +kernel
theorem d_law_674 : decode code 674 = .ok (.iadd, 1) := by decide +kernel
theorem d_law_675 : decode code 675 = .ok (.iaload, 1) := by decide +kernel
theorem d_law_676 : decode code 676 = .ok (.aload_n 0, 1) := by decide +kernel
theorem d_law_677 : decode code 677 = .ok (.iload 4, 2) := by decide +kernel
theorem d_law_679 : decode code 679 = .ok (.iconst 2, 1) := by decide +kernel
theorem d_law_680 : decode code 680 = .ok (.iadd, 1) := by decide +kernel
theorem d_law_681 : decode code 681 = .ok (.iaload, 1) := by decide +kernel
theorem d_law_682 : decode code 682 = .ok (.invokevirtual 99, 3) := by decide +kernel
theorem d_law_685 : decode code 685 = .ok (.istore 6, 2) := by decide +kernel
theorem d_law_687 : decode code 687 = .ok (.aload_n 2, 1) := by decide +kernel
theorem d_law_688 : decode code 688 = .ok (.invokevirtual 70, 3) := by decide +kernel
theorem d_law_691 : decode code 691 = .ok (.iload 5, 2) := by decide +kernel
theorem d_law_693 : decode code 693 = .ok (.if_icmp .eq 5, 3) := by decide +kernel
theorem d_law_696 : decode code 696 = .ok (.iconst 0, 1) := by decide +kernel
theorem d_law_697 : decode code 697 = .ok (.ireturn, 1) := by decide +kernel
theorem d_law_698 : decode code 698 = .ok (.iload 5, 2) := by decide +kernel
theorem d_law_700 : decode code 700 = .ok (.ifCond .ne 15, 3) := by decide +kernel
theorem d_law_703 : decode code 703 = .ok (.aload_n 3, 1) := by decide +kernel
theorem d_law_704 : decode code 704 = .ok (.iconst 0, 1) := by decide +kernel
theorem d_law_705 : decode code 705 = .ok (.laload, 1) := by decide +kernel
theorem d_law_706 : decode code 706 = .ok (.iload 6, 2) := by decide +kernel
theorem d_law_708 : decode code 708 = .ok (.i2l, 1) := by decide +kernel
theorem d_law_709 : decode code 709 = .ok (.lcmp, 1) := by decide +kernel
theorem d_law_710 : decode code 710 = .ok (.ifCond .eq 5, 3) := by decide +kernel
theorem d_law_713 : decode code 713 = .ok (.iconst 0, 1) := by decide +kernel
theorem d_law_714 : decode code 714 = .ok (.ireturn, 1) := by decide +kernel
theorem d_law_715 : decode code 715 = .ok (.goto 263, 3) := by decide +kernel
theorem d_law_718 : decode code 718 = .ok (.aload_n 1, 1) := by decide +kernel
theorem d_law_719 : decode code 719 = .ok (.aload_n 0, 1) := by decide +kernel
theorem d_law_720 : decode code 720 = .ok (.iload 4, 2) := by decide +kernel
theorem d_law_722 : decode code 722 = .ok (.iconst 1, 1) := by decide +kernel
theorem d_law_723 : decode code 723 = .ok (.iadd, 1) := by decide +kernel
theorem d_law_724 : decode code 724 = .ok (.iaload, 1) := by decide +kernel
theorem d_law_725 : decode code 725 = .ok (.aload_n 0, 1) := by decide +kernel
theorem d_law_726 : decode code 726 = .ok (.iload 4, 2) := by decide +kernel
theorem d_law_728 : decode code 728 = .ok (.iconst 2, 1) := by decide +kernel
theorem d_law_729 : decode code 729 = .ok (.iadd, 1) := by decide +kernel
theorem d_law_730 : decode code 730 = .ok (.iaload, 1) := by decide +kernel
theorem d_law_731 : decode code 731 = .ok (.aload_n 3, 1) := by decide +kernel
theorem d_law_732 : decode code 732 = .ok (.invokestatic 100, 3) := by decide +kernel
theorem d_law_735 : decode code 735 = .ok (.istore 5, 2) := by decide +kernel
theorem d_law_737 : decode code 737 = .ok (.aload_n 2, 1) := by decide +kernel
theorem d_law_738 : decode code 738 = .ok (.aload_n 0, 1) := by decide +kernel
theorem d_law_739 : decode code 739 = .ok (.iload 4, 2) := by decide +kernel
theorem d_law_741 : decode code 741 = .ok (.iconst 1, 1) := by decide +kernel
theorem d_law_742 : decode code 742 = .ok (.iadd, 1) := by decide +kernel
theorem d_law_743 : decode code 743 = .ok (.iaload, 1) := by decide +kernel
theorem d_law_744 : decode code 744 = .ok (.aload_n 0, 1) := by decide +kernel
theorem d_law_745 : decode code 745 = .ok (.iload 4, 2) := by decide +kernel
theorem d_law_747 : decode code 747 = .ok (.iconst 2, 1) := by decide +kernel
theorem d_law_748 : decode code 748 = .ok (.iadd, 1) := by decide +kernel
theorem d_law_749 : decode code 749 = .ok (.iaload, 1) := by decide +kernel
theorem d_law_750 : decode code 750 = .ok (.invokevirtual 102, 3) := by decide +kernel
theorem d_law_753 : decode code 753 = .ok (.istore 6, 2) := by decide +kernel
theorem d_law_755 : decode code 755 = .ok (.aload_n 2, 1) := by decide +kernel
theorem d_law_756 : decode code 756 = .ok (.invokevirtual 70, 3) := by decide +kernel
theorem d_law_759 : decode code 759 = .ok (.iload 5, 2) := by decide +kernel
theorem d_law_761 : decode code 761 = .ok (.if_icmp .eq 5, 3) := by decide +kernel
theorem d_law_764 : decode code 764 = .ok (.iconst 0, 1) := by decide +kernel
theorem d_law_765 : decode code 765 = .ok (.ireturn, 1) := by decide +kernel
theorem d_law_766 : decode code 766 = .ok (.iload 5, 2) := by decide +kernel
theorem d_law_768 : decode code 768 = .ok (.ifCond .ne 15, 3) := by decide +kernel
theorem d_law_771 : decode code 771 = .ok (.aload_n 3, 1) := by decide +kernel
theorem d_law_772 : decode code 772 = .ok (.iconst 0, 1) := by decide +kernel
theorem d_law_773 : decode code 773 = .ok (.laload, 1) := by decide +kernel
theorem d_law_774 : decode code 774 = .ok (.iload 6, 2) := by decide +kernel
theorem d_law_776 : decode code 776 = .ok (.i2l, 1) := by decide +kernel
theorem d_law_777 : decode code 777 = .ok (.lcmp, 1) := by decide +kernel
theorem d_law_778 : decode code 778 = .ok (.ifCond .eq 5, 3) := by decide +kernel
theorem d_law_781 : decode code 781 = .ok (.iconst 0, 1) := by decide +kernel
theorem d_law_782 : decode code 782 = .ok (.ireturn, 1) := by decide +kernel
theorem d_law_783 : decode code 783 = .ok (.goto 195, 3) := by decide +kernel
theorem d_law_786 : decode code 786 = .ok (.aload_n 1, 1) := by decide +kernel
theorem d_law_787 : decode code 787 = .ok (.aload_n 0, 1) := by decide +kernel
theorem d_law_788 : decode code 788 = .ok (.iload 4, 2) := by decide +kernel
theorem d_law_790 : decode code 790 = .ok (.iconst 1, 1) := by decide +kernel
theorem d_law_791 : decode code 791 = .ok (.iadd, 1) := by decide +kernel
theorem d_law_792 : decode code 792 = .ok (.iaload, 1) := by decide +kernel
theorem d_law_793 : decode code 793 = .ok (.aload_n 0, 1) := by decide +kernel
theorem d_law_794 : decode code 794 = .ok (.iload 4, 2) := by decide +kernel
theorem d_law_796 : decode code 796 = .ok (.iconst 2, 1) := by decide +kernel
theorem d_law_797 : decode code 797 = .ok (.iadd, 1) := by decide +kernel
theorem d_law_798 : decode code 798 = .ok (.iaload, 1) := by decide +kernel
theorem d_law_799 : decode code 799 = .ok (.aload_n 3, 1) := by decide +kernel
theorem d_law_800 : decode code 800 = .ok (.invokestatic 103, 3) := by decide +kernel
theorem d_law_803 : decode code 803 = .ok (.istore 5, 2) := by decide +kernel
theorem d_law_805 : decode code 805 = .ok (.aload_n 2, 1) := by decide +kernel
theorem d_law_806 : decode code 806 = .ok (.aload_n 0, 1) := by decide +kernel
theorem d_law_807 : decode code 807 = .ok (.iload 4, 2) := by decide +kernel
theorem d_law_809 : decode code 809 = .ok (.iconst 1, 1) := by decide +kernel
theorem d_law_810 : decode code 810 = .ok (.iadd, 1) := by decide +kernel
theorem d_law_811 : decode code 811 = .ok (.iaload, 1) := by decide +kernel
theorem d_law_812 : decode code 812 = .ok (.aload_n 0, 1) := by decide +kernel
theorem d_law_813 : decode code 813 = .ok (.iload 4, 2) := by decide +kernel
theorem d_law_815 : decode code 815 = .ok (.iconst 2, 1) := by decide +kernel
theorem d_law_816 : decode code 816 = .ok (.iadd, 1) := by decide +kernel
theorem d_law_817 : decode code 817 = .ok (.iaload, 1) := by decide +kernel
theorem d_law_818 : decode code 818 = .ok (.invokevirtual 105, 3) := by decide +kernel
theorem d_law_821 : decode code 821 = .ok (.istore 6, 2) := by decide +kernel
theorem d_law_823 : decode code 823 = .ok (.aload_n 2, 1) := by decide +kernel
theorem d_law_824 : decode code 824 = .ok (.invokevirtual 70, 3) := by decide +kernel
theorem d_law_827 : decode code 827 = .ok (.iload 5, 2) := by decide +kernel
theorem d_law_829 : decode code 829 = .ok (.if_icmp .eq 5, 3) := by decide +kernel
theorem d_law_832 : decode code 832 = .ok (.iconst 0, 1) := by decide +kernel
theorem d_law_833 : decode code 833 = .ok (.ireturn, 1) := by decide +kernel
theorem d_law_834 : decode code 834 = .ok (.iload 5, 2) := by decide +kernel
theorem d_law_836 : decode code 836 = .ok (.ifCond .ne 15, 3) := by decide +kernel
theorem d_law_839 : decode code 839 = .ok (.aload_n 3, 1) := by decide +kernel
theorem d_law_840 : decode code 840 = .ok (.iconst 0, 1) := by decide +kernel
theorem d_law_841 : decode code 841 = .ok (.laload, 1) := by decide +kernel
theorem d_law_842 : decode code 842 = .ok (.iload 6, 2) := by decide +kernel
theorem d_law_844 : decode code 844 = .ok (.i2l, 1) := by decide +kernel
theorem d_law_845 : decode code 845 = .ok (.lcmp, 1) := by decide +kernel
theorem d_law_846 : decode code 846 = .ok (.ifCond .eq 5, 3) := by decide +kernel
theorem d_law_849 : decode code 849 = .ok (.iconst 0, 1) := by decide +kernel
theorem d_law_850 : decode code 850 = .ok (.ireturn, 1) := by decide +kernel
theorem d_law_851 : decode code 851 = .ok (.goto 127, 3) := by decide +kernel
theorem d_law_854 : decode code 854 = .ok (.aload_n 1, 1) := by decide +kernel
theorem d_law_855 : decode code 855 = .ok (.aload_n 0, 1) := by decide +kernel
theorem d_law_856 : decode code 856 = .ok (.iload 4, 2) := by decide +kernel
theorem d_law_858 : decode code 858 = .ok (.iconst 1, 1) := by decide +kernel
theorem d_law_859 : decode code 859 = .ok (.iadd, 1) := by decide +kernel
theorem d_law_860 : decode code 860 = .ok (.iaload, 1) := by decide +kernel
theorem d_law_861 : decode code 861 = .ok (.aload_n 0, 1) := by decide +kernel
theorem d_law_862 : decode code 862 = .ok (.iload 4, 2) := by decide +kernel
theorem d_law_864 : decode code 864 = .ok (.iconst 2, 1) := by decide +kernel
theorem d_law_865 : decode code 865 = .ok (.iadd, 1) := by decide +kernel
theorem d_law_866 : decode code 866 = .ok (.iaload, 1) := by decide +kernel
theorem d_law_867 : decode code 867 = .ok (.aload_n 3, 1) := by decide +kernel
theorem d_law_868 : decode code 868 = .ok (.invokestatic 106, 3) := by decide +kernel
theorem d_law_871 : decode code 871 = .ok (.istore 5, 2) := by decide +kernel
theorem d_law_873 : decode code 873 = .ok (.aload_n 2, 1) := by decide +kernel
theorem d_law_874 : decode code 874 = .ok (.aload_n 0, 1) := by decide +kernel
theorem d_law_875 : decode code 875 = .ok (.iload 4, 2) := by decide +kernel
theorem d_law_877 : decode code 877 = .ok (.iconst 1, 1) := by decide +kernel
theorem d_law_878 : decode code 878 = .ok (.iadd, 1) := by decide +kernel
theorem d_law_879 : decode code 879 = .ok (.iaload, 1) := by decide +kernel
theorem d_law_880 : decode code 880 = .ok (.aload_n 0, 1) := by decide +kernel
theorem d_law_881 : decode code 881 = .ok (.iload 4, 2) := by decide +kernel
theorem d_law_883 : decode code 883 = .ok (.iconst 2, 1) := by decide +kernel
theorem d_law_884 : decode code 884 = .ok (.iadd, 1) := by decide +kernel
theorem d_law_885 : decode code 885 = .ok (.iaload, 1) := by decide +kernel
theorem d_law_886 : decode code 886 = .ok (.invokevirtual 108, 3) := by decide +kernel
theorem d_law_889 : decode code 889 = .ok (.istore 6, 2) := by decide +kernel
theorem d_law_891 : decode code 891 = .ok (.aload_n 2, 1) := by decide +kernel
theorem d_law_892 : decode code 892 = .ok (.invokevirtual 70, 3) := by decide +kernel
theorem d_law_895 : decode code 895 = .ok (.iload 5, 2) := by decide +kernel
theorem d_law_897 : decode code 897 = .ok (.if_icmp .eq 5, 3) := by decide +kernel
theorem d_law_900 : decode code 900 = .ok (.iconst 0, 1) := by decide +kernel
theorem d_law_901 : decode code 901 = .ok (.ireturn, 1) := by decide +kernel
theorem d_law_902 : decode code 902 = .ok (.iload 5, 2) := by decide +kernel
theorem d_law_904 : decode code 904 = .ok (.ifCond .ne 15, 3) := by decide +kernel
theorem d_law_907 : decode code 907 = .ok (.aload_n 3, 1) := by decide +kernel
theorem d_law_908 : decode code 908 = .ok (.iconst 0, 1) := by decide +kernel
theorem d_law_909 : decode code 909 = .ok (.laload, 1) := by decide +kernel
theorem d_law_910 : decode code 910 = .ok (.iload 6, 2) := by decide +kernel
theorem d_law_912 : decode code 912 = .ok (.i2l, 1) := by decide +kernel
theorem d_law_913 : decode code 913 = .ok (.lcmp, 1) := by decide +kernel
theorem d_law_914 : decode code 914 = .ok (.ifCond .eq 5, 3) := by decide +kernel
theorem d_law_917 : decode code 917 = .ok (.iconst 0, 1) := by decide +kernel
theorem d_law_918 : decode code 918 = .ok (.ireturn, 1) := by decide +kernel
theorem d_law_919 : decode code 919 = .ok (.goto 59, 3) := by decide +kernel
theorem d_law_922 : decode code 922 = .ok (.aload_n 1, 1) := by decide +kernel
theorem d_law_923 : decode code 923 = .ok (.aload_n 0, 1) := by decide +kernel
theorem d_law_924 : decode code 924 = .ok (.iload 4, 2) := by decide +kernel
theorem d_law_926 : decode code 926 = .ok (.iconst 1, 1) := by decide +kernel
theorem d_law_927 : decode code 927 = .ok (.iadd, 1) := by decide +kernel
theorem d_law_928 : decode code 928 = .ok (.iaload, 1) := by decide +kernel
theorem d_law_929 : decode code 929 = .ok (.aload_n 3, 1) := by decide +kernel
theorem d_law_930 : decode code 930 = .ok (.invokestatic 109, 3) := by decide +kernel
theorem d_law_933 : decode code 933 = .ok (.istore 5, 2) := by decide +kernel
theorem d_law_935 : decode code 935 = .ok (.aload_n 2, 1) := by decide +kernel
theorem d_law_936 : decode code 936 = .ok (.aload_n 0, 1) := by decide +kernel
theorem d_law_937 : decode code 937 = .ok (.iload 4, 2) := by decide +kernel
theorem d_law_939 : decode code 939 = .ok (.iconst 1, 1) := by decide +kernel
theorem d_law_940 : decode code 940 = .ok (.iadd, 1) := by decide +kernel
theorem d_law_941 : decode code 941 = .ok (.iaload, 1) := by decide +kernel
theorem d_law_942 : decode code 942 = .ok (.invokevirtual 111, 3) := by decide +kernel
theorem d_law_945 : decode code 945 = .ok (.istore 6, 2) := by decide +kernel
theorem d_law_947 : decode code 947 = .ok (.aload_n 2, 1) := by decide +kernel
theorem d_law_948 : decode code 948 = .ok (.invokevirtual 70, 3) := by decide +kernel
theorem d_law_951 : decode code 951 = .ok (.iload 5, 2) := by decide +kernel
theorem d_law_953 : decode code 953 = .ok (.if_icmp .eq 5, 3) := by decide +kernel
theorem d_law_956 : decode code 956 = .ok (.iconst 0, 1) := by decide +kernel
theorem d_law_957 : decode code 957 = .ok (.ireturn, 1) := by decide +kernel
theorem d_law_958 : decode code 958 = .ok (.iload 5, 2) := by decide +kernel
theorem d_law_960 : decode code 960 = .ok (.ifCond .ne 15, 3) := by decide +kernel
theorem d_law_963 : decode code 963 = .ok (.aload_n 3, 1) := by decide +kernel
theorem d_law_964 : decode code 964 = .ok (.iconst 0, 1) := by decide +kernel
theorem d_law_965 : decode code 965 = .ok (.laload, 1) := by decide +kernel
theorem d_law_966 : decode code 966 = .ok (.iload 6, 2) := by decide +kernel
theorem d_law_968 : decode code 968 = .ok (.i2l, 1) := by decide +kernel
theorem d_law_969 : decode code 969 = .ok (.lcmp, 1) := by decide +kernel
theorem d_law_970 : decode code 970 = .ok (.ifCond .eq 5, 3) := by decide +kernel
theorem d_law_973 : decode code 973 = .ok (.iconst 0, 1) := by decide +kernel
theorem d_law_974 : decode code 974 = .ok (.ireturn, 1) := by decide +kernel
theorem d_law_975 : decode code 975 = .ok (.goto 3, 3) := by decide +kernel
theorem d_law_978 : decode code 978 = .ok (.iinc 4 4, 3) := by decide +kernel
theorem d_law_981 : decode code 981 = .ok (.goto (-958), 3) := by decide +kernel
theorem d_law_984 : decode code 984 = .ok (.iconst 1, 1) := by decide +kernel
theorem d_law_985 : decode code 985 = .ok (.ireturn, 1) := by decide +kernel
