theorem dX11_readTarga_641 : decode cX11_readTarga 641 = .ok (.ireturn, 1) := by decide +kernel
theorem dX11_readTarga_642 : decode cX11_readTarga 642 = .ok (.iconst 0, 1) := by decide +kernel
theorem dX11_readTarga_643 : decode cX11_readTarga 643 = .ok (.istore 16, 2) := by decide +kernel
theorem dX11_readTarga_645 : decode cX11_readTarga 645 = .ok (.iload 16, 2) := by decide +kernel
theorem dX11_readTarga_647 : decode cX11_readTarga 647 = .ok (.iload 7, 2) := by decide +kernel
theorem dX11_readTarga_649 : decode cX11_readTarga 649 = .ok (.if_icmp .ge 44, 3) := by decide +kernel
theorem dX11_readTarga_652 : decode cX11_readTarga 652 = .ok (.iload 4, 2) := by decide +kernel
theorem dX11_readTarga_654 : decode cX11_readTarga 654 = .ok (.ifCond .eq 22, 3) := by decide +kernel
theorem dX11_readTarga_657 : decode cX11_readTarga 657 = .ok (.aload_n 0, 1) := by decide +kernel
theorem dX11_readTarga_658 : decode cX11_readTarga 658 = .ok (.getfield 49, 3) := by decide +kernel
theorem dX11_readTarga_661 : decode cX11_readTarga 661 = .ok (.iload 16, 2) := by decide +kernel
theorem dX11_readTarga_663 : decode cX11_readTarga 663 = .ok (.aload_n 0, 1) := by decide +kernel
theorem dX11_readTarga_664 : decode cX11_readTarga 664 = .ok (.aload_n 0, 1) := by decide +kernel
theorem dX11_readTarga_665 : decode cX11_readTarga 665 = .ok (.getfield 84, 3) := by decide +kernel
theorem dX11_readTarga_668 : decode cX11_readTarga 668 = .ok (.iload 8, 2) := by decide +kernel
theorem dX11_readTarga_670 : decode cX11_readTarga 670 = .ok (.iload 13, 2) := by decide +kernel
theorem dX11_readTarga_672 : decode cX11_readTarga 672 = .ok (.invokevirtual 211, 3) := by decide +kernel
theorem dX11_readTarga_675 : decode cX11_readTarga 675 = .ok (.iastore, 1) := by decide +kernel
theorem dX11_readTarga_676 : decode cX11_readTarga 676 = .ok (.aload_n 0, 1) := by decide +kernel
theorem dX11_readTarga_677 : decode cX11_readTarga 677 = .ok (.dup, 1) := by decide +kernel
theorem dX11_readTarga_678 : decode cX11_readTarga 678 = .ok (.getfield 84, 3) := by decide +kernel
theorem dX11_readTarga_681 : decode cX11_readTarga 681 = .ok (.iload 15, 2) := by decide +kernel
theorem dX11_readTarga_683 : decode cX11_readTarga 683 = .ok (.iadd, 1) := by decide +kernel
theorem dX11_readTarga_684 : decode cX11_readTarga 684 = .ok (.putfield 84, 3) := by decide +kernel
theorem dX11_readTarga_687 : decode cX11_readTarga 687 = .ok (.iinc 16 1, 3) := by decide +kernel
theorem dX11_readTarga_690 : decode cX11_readTarga 690 = .ok (.goto (-45), 3) := by decide +kernel
theorem dX11_readTarga_693 : decode cX11_readTarga 693 = .ok (.aload_n 0, 1) := by decide +kernel
theorem dX11_readTarga_694 : decode cX11_readTarga 694 = .ok (.iload_n 3, 1) := by decide +kernel
theorem dX11_readTarga_695 : decode cX11_readTarga 695 = .ok (.putfield 130, 3) := by decide +kernel
theorem dX11_readTarga_698 : decode cX11_readTarga 698 = .ok (.aload_n 0, 1) := by decide +kernel
theorem dX11_readTarga_699 : decode cX11_readTarga 699 = .ok (.iload 11, 2) := by decide +kernel
theorem dX11_readTarga_701 : decode cX11_readTarga 701 = .ok (.putfield 133, 3) := by decide +kernel
theorem dX11_readTarga_704 : decode cX11_readTarga 704 = .ok (.aload_n 0, 1) := by decide +kernel
theorem dX11_readTarga_705 : decode cX11_readTarga 705 = .ok (.iconst 0, 1) := by decide +kernel
theorem dX11_readTarga_706 : decode cX11_readTarga 706 = .ok (.putfield 136, 3) := by decide +kernel
theorem dX11_readTarga_709 : decode cX11_readTarga 709 = .ok (.iconst 0, 1) := by decide +kernel
theorem dX11_readTarga_710 : decode cX11_readTarga 710 = .ok (.istore 16, 2) := by decide +kernel
theorem dX11_readTarga_712 : decode cX11_readTarga 712 = .ok (.iconst 0, 1) := by decide +kernel
theorem dX11_readTarga_713 : decode cX11_readTarga 713 = .ok (.istore 17, 2) := by decide +kernel
theorem dX11_readTarga_715 : decode cX11_readTarga 715 = .ok (.iconst 0, 1) := by decide +kernel
theorem dX11_readTarga_716 : decode cX11_readTarga 716 = .ok (.istore 18, 2) := by decide +kernel
theorem dX11_readTarga_718 : decode cX11_readTarga 718 = .ok (.iconst 0, 1) := by decide +kernel
theorem dX11_readTarga_719 : decode cX11_readTarga 719 = .ok (.istore 19, 2) := by decide +kernel
theorem dX11_readTarga_721 : decode cX11_readTarga 721 = .ok (.iload 19, 2) := by decide +kernel
theorem dX11_readTarga_723 : decode cX11_readTarga 723 = .ok (.aload_n 0, 1) := by decide +kernel
theorem dX11_readTarga_724 : decode cX11_readTarga 724 = .ok (.getfield 109, 3) := by decide +kernel
theorem dX11_readTarga_727 : decode cX11_readTarga 727 = .ok (.aload_n 0, 1) := by decide +kernel
theorem dX11_readTarga_728 : decode cX11_readTarga 728 = .ok (.getfield 112, 3) := by decide +kernel
theorem dX11_readTarga_731 : decode cX11_readTarga 731 = .ok (.imul, 1) := by decide +kernel
theorem dX11_readTarga_732 : decode cX11_readTarga 732 = .ok (.if_icmp .ge 340, 3) := by decide +kernel
theorem dX11_readTarga_735 : decode cX11_readTarga 735 = .ok (.iload 19, 2) := by decide +kernel
theorem dX11_readTarga_737 : decode cX11_readTarga 737 = .ok (.aload_n 0, 1) := by decide +kernel
theorem dX11_readTarga_738 : decode cX11_readTarga 738 = .ok (.getfield 109, 3) := by decide +kernel
theorem dX11_readTarga_741 : decode cX11_readTarga 741 = .ok (.irem, 1) := by decide +kernel
theorem dX11_readTarga_742 : decode cX11_readTarga 742 = .ok (.istore 20, 2) := by decide +kernel
theorem dX11_readTarga_744 : decode cX11_readTarga 744 = .ok (.iload 19, 2) := by decide +kernel
theorem dX11_readTarga_746 : decode cX11_readTarga 746 = .ok (.aload_n 0, 1) := by decide +kernel
theorem dX11_readTarga_747 : decode cX11_readTarga 747 = .ok (.getfield 109, 3) := by decide +kernel
theorem dX11_readTarga_750 : decode cX11_readTarga 750 = .ok (.idiv, 1) := by decide +kernel
theorem dX11_readTarga_751 : decode cX11_readTarga 751 = .ok (.istore 21, 2) := by decide +kernel
theorem dX11_readTarga_753 : decode cX11_readTarga 753 = .ok (.iconst 1, 1) := by decide +kernel
theorem dX11_readTarga_754 : decode cX11_readTarga 754 = .ok (.istore 22, 2) := by decide +kernel
theorem dX11_readTarga_756 : decode cX11_readTarga 756 = .ok (.iload_n 3, 1) := by decide +kernel
theorem dX11_readTarga_757 : decode cX11_readTarga 757 = .ok (.bipush 9, 2) := by decide +kernel
theorem dX11_readTarga_759 : decode cX11_readTarga 759 = .ok (.if_icmp .lt 130, 3) := by decide +kernel
theorem dX11_readTarga_762 : decode cX11_readTarga 762 = .ok (.iload 16, 2) := by decide +kernel
theorem dX11_readTarga_764 : decode cX11_readTarga 764 = .ok (.ifCond .ne 110, 3) := by decide +kernel
theorem dX11_readTarga_767 : decode cX11_readTarga 767 = .ok (.aload_n 0, 1) := by decide +kernel
theorem dX11_readTarga_768 : decode cX11_readTarga 768 = .ok (.iconst 1, 1) := by decide +kernel
theorem dX11_readTarga_769 : decode cX11_readTarga 769 = .ok (.invokevirtual 103, 3) := by decide +kernel
theorem dX11_readTarga_772 : decode cX11_readTarga 772 = .ok (.ifCond .ne 5, 3) := by decide +kernel
theorem dX11_readTarga_775 : decode cX11_readTarga 775 = .ok (.iconst 0, 1) := by decide +kernel
theorem dX11_readTarga_776 : decode cX11_readTarga 776 = .ok (.ireturn, 1) := by decide +kernel
theorem dX11_readTarga_777 : decode cX11_readTarga 777 = .ok (.aload_n 0, 1) := by decide +kernel
theorem dX11_readTarga_778 : decode cX11_readTarga 778 = .ok (.aload_n 0, 1) := by decide +kernel
theorem dX11_readTarga_779 : decode cX11_readTarga 779 = .ok (.getfield 84, 3) := by decide +kernel
theorem dX11_readTarga_782 : decode cX11_readTarga 782 = .ok (.invokevirtual 99, 3) := by decide +kernel
theorem dX11_readTarga_785 : decode cX11_readTarga 785 = .ok (.sipush 128, 3) := by decide +kernel
theorem dX11_readTarga_788 : decode cX11_readTarga 788 = .ok (.if_icmp .lt 7, 3) := by decide +kernel
theorem dX11_readTarga_791 : decode cX11_readTarga 791 = .ok (.iconst 1, 1) := by decide +kernel
theorem dX11_readTarga_792 : decode cX11_readTarga 792 = .ok (.goto 4, 3) := by decide +kernel
theorem dX11_readTarga_795 : decode cX11_readTarga 795 = .ok (.iconst 0, 1) := by decide +kernel
theorem dX11_readTarga_796 : decode cX11_readTarga 796 = .ok (.istore 17, 2) := by decide +kernel
theorem dX11_readTarga_798 : decode cX11_readTarga 798 = .ok (.iload 17, 2) := by decide +kernel
theorem dX11_readTarga_800 : decode cX11_readTarga 800 = .ok (.ifCond .eq 17, 3) := by decide +kernel
theorem dX11_readTarga_803 : decode cX11_readTarga 803 = .ok (.aload_n 0, 1) := by decide +kernel
theorem dX11_readTarga_804 : decode cX11_readTarga 804 = .ok (.aload_n 0, 1) := by decide +kernel
theorem dX11_readTarga_805 : decode cX11_readTarga 805 = .ok (.getfield 84, 3) := by decide +kernel
theorem dX11_readTarga_808 : decode cX11_readTarga 808 = .ok (.invokevirtual 99, 3) := by decide +kernel
theorem dX11_readTarga_811 : decode cX11_readTarga 811 = .ok (.bipush 127, 2) := by decide +kernel
theorem dX11_readTarga_813 : decode cX11_readTarga 813 = .ok (.isub, 1) := by decide +kernel
theorem dX11_readTarga_814 : decode cX11_readTarga 814 = .ok (.goto 13, 3) := by decide +kernel
theorem dX11_readTarga_817 : decode cX11_readTarga 817 = .ok (.aload_n 0, 1) := by decide +kernel
theorem dX11_readTarga_818 : decode cX11_readTarga 818 = .ok (.aload_n 0, 1) := by decide +kernel
theorem dX11_readTarga_819 : decode cX11_readTarga 819 = .ok (.getfield 84, 3) := by decide +kernel
theorem dX11_readTarga_822 : decode cX11_readTarga 822 = .ok (.invokevirtual 99, 3) := by decide +kernel
theorem dX11_readTarga_825 : decode cX11_readTarga 825 = .ok (.iconst 1, 1) := by decide +kernel
theorem dX11_readTarga_826 : decode cX11_readTarga 826 = .ok (.iadd, 1) := by decide +kernel
theorem dX11_readTarga_827 : decode cX11_readTarga 827 = .ok (.istore 16, 2) := by decide +kernel
theorem dX11_readTarga_829 : decode cX11_readTarga 829 = .ok (.iload 20, 2) := by decide +kernel
theorem dX11_readTarga_831 : decode cX11_readTarga 831 = .ok (.iload 16, 2) := by decide +kernel
theorem dX11_readTarga_833 : decode cX11_readTarga 833 = .ok (.iadd, 1) := by decide +kernel
theorem dX11_readTarga_834 : decode cX11_readTarga 834 = .ok (.aload_n 0, 1) := by decide +kernel
theorem dX11_readTarga_835 : decode cX11_readTarga 835 = .ok (.getfield 109, 3) := by decide +kernel
theorem dX11_readTarga_838 : decode cX11_readTarga 838 = .ok (.if_icmp .le 13, 3) := by decide +kernel
theorem dX11_readTarga_841 : decode cX11_readTarga 841 = .ok (.aload_n 0, 1) := by decide +kernel
theorem dX11_readTarga_842 : decode cX11_readTarga 842 = .ok (.iconst 4, 1) := by decide +kernel
theorem dX11_readTarga_843 : decode cX11_readTarga 843 = .ok (.aload_n 0, 1) := by decide +kernel
theorem dX11_readTarga_844 : decode cX11_readTarga 844 = .ok (.getfield 84, 3) := by decide +kernel
theorem dX11_readTarga_847 : decode cX11_readTarga 847 = .ok (.invokevirtual 90, 3) := by decide +kernel
theorem dX11_readTarga_850 : decode cX11_readTarga 850 = .ok (.ireturn, 1) := by decide +kernel
theorem dX11_readTarga_851 : decode cX11_readTarga 851 = .ok (.aload_n 0, 1) := by decide +kernel
theorem dX11_readTarga_852 : decode cX11_readTarga 852 = .ok (.dup, 1) := by decide +kernel
theorem dX11_readTarga_853 : decode cX11_readTarga 853 = .ok (.getfield 84, 3) := by decide +kernel
theorem dX11_readTarga_856 : decode cX11_readTarga 856 = .ok (.iconst 1, 1) := by decide +kernel
theorem dX11_readTarga_857 : decode cX11_readTarga 857 = .ok (.iadd, 1) := by decide +kernel
theorem dX11_readTarga_858 : decode cX11_readTarga 858 = .ok (.putfield 84, 3) := by decide +kernel
theorem dX11_readTarga_861 : decode cX11_readTarga 861 = .ok (.aload_n 0, 1) := by decide +kernel
theorem dX11_readTarga_862 : decode cX11_readTarga 862 = .ok (.dup, 1) := by decide +kernel
theorem dX11_readTarga_863 : decode cX11_readTarga 863 = .ok (.getfield 136, 3) := by decide +kernel
theorem dX11_readTarga_866 : decode cX11_readTarga 866 = .ok (.iconst 1, 1) := by decide +kernel
theorem dX11_readTarga_867 : decode cX11_readTarga 867 = .ok (.iadd, 1) := by decide +kernel
theorem dX11_readTarga_868 : decode cX11_readTarga 868 = .ok (.putfield 136, 3) := by decide +kernel
theorem dX11_readTarga_871 : decode cX11_readTarga 871 = .ok (.goto 15, 3) := by decide +kernel
theorem dX11_readTarga_874 : decode cX11_readTarga 874 = .ok (.iload 17, 2) := by decide +kernel
theorem dX11_readTarga_876 : decode cX11_readTarga 876 = .ok (.ifCond .ne 7, 3) := by decide +kernel
theorem dX11_readTarga_879 : decode cX11_readTarga 879 = .ok (.iconst 1, 1) := by decide +kernel
theorem dX11_readTarga_880 : decode cX11_readTarga 880 = .ok (.goto 4, 3) := by decide +kernel
theorem dX11_readTarga_883 : decode cX11_readTarga 883 = .ok (.iconst 0, 1) := by decide +kernel
theorem dX11_readTarga_884 : decode cX11_readTarga 884 = .ok (.istore 22, 2) := by decide +kernel
theorem dX11_readTarga_886 : decode cX11_readTarga 886 = .ok (.iinc 16 (-1), 3) := by decide +kernel
theorem dX11_readTarga_889 : decode cX11_readTarga 889 = .ok (.iload 22, 2) := by decide +kernel
theorem dX11_readTarga_891 : decode cX11_readTarga 891 = .ok (.ifCond .eq 118, 3) := by decide +kernel
theorem dX11_readTarga_894 : decode cX11_readTarga 894 = .ok (.iload 11, 2) := by decide +kernel
theorem dX11_readTarga_896 : decode cX11_readTarga 896 = .ok (.bipush 8, 2) := by decide +kernel
theorem dX11_readTarga_898 : decode cX11_readTarga 898 = .ok (.idiv, 1) := by decide +kernel
theorem dX11_readTarga_899 : decode cX11_readTarga 899 = .ok (.istore 23, 2) := by decide +kernel
theorem dX11_readTarga_901 : decode cX11_readTarga 901 = .ok (.aload_n 0, 1) := by decide +kernel
theorem dX11_readTarga_902 : decode cX11_readTarga 902 = .ok (.iload 23, 2) := by decide +kernel
theorem dX11_readTarga_904 : decode cX11_readTarga 904 = .ok (.invokevirtual 103, 3) := by decide +kernel
theorem dX11_readTarga_907 : decode cX11_readTarga 907 = .ok (.ifCond .ne 5, 3) := by decide +kernel
theorem dX11_readTarga_910 : decode cX11_readTarga 910 = .ok (.iconst 0, 1) := by decide +kernel
theorem dX11_readTarga_911 : decode cX11_readTarga 911 = .ok (.ireturn, 1) := by decide +kernel
theorem dX11_readTarga_912 : decode cX11_readTarga 912 = .ok (.iload 4, 2) := by decide +kernel
theorem dX11_readTarga_914 : decode cX11_readTarga 914 = .ok (.ifCond .eq 51, 3) := by decide +kernel
theorem dX11_readTarga_917 : decode cX11_readTarga 917 = .ok (.aload_n 0, 1) := by decide +kernel
theorem dX11_readTarga_918 : decode cX11_readTarga 918 = .ok (.aload_n 0, 1) := by decide +kernel
theorem dX11_readTarga_919 : decode cX11_readTarga 919 = .ok (.getfield 84, 3) := by decide +kernel
theorem dX11_readTarga_922 : decode cX11_readTarga 922 = .ok (.invokevirtual 99, 3) := by decide +kernel
theorem dX11_readTarga_925 : decode cX11_readTarga 925 = .ok (.iload 6, 2) := by decide +kernel
theorem dX11_readTarga_927 : decode cX11_readTarga 927 = .ok (.isub, 1) := by decide +kernel
theorem dX11_readTarga_928 : decode cX11_readTarga 928 = .ok (.istore 24, 2) := by decide +kernel
theorem dX11_readTarga_930 : decode cX11_readTarga 930 = .ok (.iload 24, 2) := by decide +kernel
theorem dX11_readTarga_932 : decode cX11_readTarga 932 = .ok (.ifCond .lt 10, 3) := by decide +kernel
theorem dX11_readTarga_935 : decode cX11_readTarga 935 = .ok (.iload 24, 2) := by decide +kernel
theorem dX11_readTarga_937 : decode cX11_readTarga 937 = .ok (.iload 7, 2) := by decide +kernel
theorem dX11_readTarga_939 : decode cX11_readTarga 939 = .ok (.if_icmp .lt 14, 3) := by decide +kernel
theorem dX11_readTarga_942 : decode cX11_readTarga 942 = .ok (.aload_n 0, 1) := by decide +kernel
theorem dX11_readTarga_943 : decode cX11_readTarga 943 = .ok (.bipush 6, 2) := by decide +kernel
theorem dX11_readTarga_945 : decode cX11_readTarga 945 = .ok (.aload_n 0, 1) := by decide +kernel
theorem dX11_readTarga_946 : decode cX11_readTarga 946 = .ok (.getfield 84, 3) := by decide +kernel
theorem dX11_readTarga_949 : decode cX11_readTarga 949 = .ok (.invokevirtual 90, 3) := by decide +kernel
theorem dX11_readTarga_952 : decode cX11_readTarga 952 = .ok (.ireturn, 1) := by decide +kernel
theorem dX11_readTarga_953 : decode cX11_readTarga 953 = .ok (.aload_n 0, 1) := by decide +kernel
theorem dX11_readTarga_954 : decode cX11_readTarga 954 = .ok (.getfield 49, 3) := by decide +kernel
theorem dX11_readTarga_957 : decode cX11_readTarga 957 = .ok (.iload 24, 2) := by decide +kernel
theorem dX11_readTarga_959 : decode cX11_readTarga 959 = .ok (.iaload, 1) := by decide +kernel
theorem dX11_readTarga_960 : decode cX11_readTarga 960 = .ok (.istore 18, 2) := by decide +kernel
theorem dX11_readTarga_962 : decode cX11_readTarga 962 = .ok (.goto 36, 3) := by decide +kernel
theorem dX11_readTarga_965 : decode cX11_readTarga 965 = .ok (.iload 5, 2) := by decide +kernel
theorem dX11_readTarga_967 : decode cX11_readTarga 967 = .ok (.ifCond .eq 17, 3) := by decide +kernel
theorem dX11_readTarga_970 : decode cX11_readTarga 970 = .ok (.aload_n 0, 1) := by decide +kernel
theorem dX11_readTarga_971 : decode cX11_readTarga 971 = .ok (.aload_n 0, 1) := by decide +kernel
theorem dX11_readTarga_972 : decode cX11_readTarga 972 = .ok (.getfield 84, 3) := by decide +kernel
theorem dX11_readTarga_975 : decode cX11_readTarga 975 = .ok (.invokevirtual 99, 3) := by decide +kernel
theorem dX11_readTarga_978 : decode cX11_readTarga 978 = .ok (.invokestatic 176, 3) := by decide +kernel
theorem dX11_readTarga_981 : decode cX11_readTarga 981 = .ok (.goto 15, 3) := by decide +kernel
theorem dX11_readTarga_984 : decode cX11_readTarga 984 = .ok (.aload_n 0, 1) := by decide +kernel
theorem dX11_readTarga_985 : decode cX11_readTarga 985 = .ok (.aload_n 0, 1) := by decide +kernel
theorem dX11_readTarga_986 : decode cX11_readTarga 986 = .ok (.getfield 84, 3) := by decide +kernel
theorem dX11_readTarga_989 : decode cX11_readTarga 989 = .ok (.iload 11, 2) := by decide +kernel
theorem dX11_readTarga_991 : decode cX11_readTarga 991 = .ok (.iload 13, 2) := by decide +kernel
theorem dX11_readTarga_993 : decode cX11_readTarga 993 = .ok (.invokevirtual 211, 3) := by decide +kernel
theorem dX11_readTarga_996 : decode cX11_readTarga 996 = .ok (.istore 18, 2) := by decide +kernel
theorem dX11_readTarga_998 : decode cX11_readTarga 998 = .ok (.aload_n 0, 1) := by decide +kernel
theorem dX11_readTarga_999 : decode cX11_readTarga 999 = .ok (.dup, 1) := by decide +kernel
theorem dX11_readTarga_1000 : decode cX11_readTarga 1000 = .ok (.getfield 84, 3) := by decide +kernel
theorem dX11_readTarga_1003 : decode cX11_readTarga 1003 = .ok (.iload 23, 2) := by decide +kernel
theorem dX11_readTarga_1005 : decode cX11_readTarga 1005 = .ok (.iadd, 1) := by decide +kernel
theorem dX11_readTarga_1006 : decode cX11_readTarga 1006 = .ok (.putfield 84, 3) := by decide +kernel
theorem dX11_readTarga_1009 : decode cX11_readTarga 1009 = .ok (.aload_n 0, 1) := by decide +kernel
theorem dX11_readTarga_1010 : decode cX11_readTarga 1010 = .ok (.getfield 27, 3) := by decide +kernel
theorem dX11_readTarga_1013 : decode cX11_readTarga 1013 = .ok (.aload_n 0, 1) := by decide +kernel
theorem dX11_readTarga_1014 : decode cX11_readTarga 1014 = .ok (.getfield 109, 3) := by decide +kernel
theorem dX11_readTarga_1017 : decode cX11_readTarga 1017 = .ok (.iload 12, 2) := by decide +kernel
theorem dX11_readTarga_1019 : decode cX11_readTarga 1019 = .ok (.bipush 32, 2) := by decide +kernel
theorem dX11_readTarga_1021 : decode cX11_readTarga 1021 = .ok (.iand, 1) := by decide +kernel
theorem dX11_readTarga_1022 : decode cX11_readTarga 1022 = .ok (.ifCond .eq 8, 3) := by decide +kernel
theorem dX11_readTarga_1025 : decode cX11_readTarga 1025 = .ok (.iload 21, 2) := by decide +kernel
theorem dX11_readTarga_1027 : decode cX11_readTarga 1027 = .ok (.goto 12, 3) := by decide +kernel
theorem dX11_readTarga_1030 : decode cX11_readTarga 1030 = .ok (.aload_n 0, 1) := by decide +kernel
theorem dX11_readTarga_1031 : decode cX11_readTarga 1031 = .ok (.getfield 112, 3) := by decide +kernel
theorem dX11_readTarga_1034 : decode cX11_readTarga 1034 = .ok (.iconst 1, 1) := by decide +kernel
theorem dX11_readTarga_1035 : decode cX11_readTarga 1035 = .ok (.isub, 1) := by decide +kernel
theorem dX11_readTarga_1036 : decode cX11_readTarga 1036 = .ok (.iload 21, 2) := by decide +kernel
theorem dX11_readTarga_1038 : decode cX11_readTarga 1038 = .ok (.isub, 1) := by decide +kernel
theorem dX11_readTarga_1039 : decode cX11_readTarga 1039 = .ok (.imul, 1) := by decide +kernel
theorem dX11_readTarga_1040 : decode cX11_readTarga 1040 = .ok (.iload 12, 2) := by decide +kernel
theorem dX11_readTarga_1042 : decode cX11_readTarga 1042 = .ok (.bipush 16, 2) := by decide +kernel
theorem dX11_readTarga_1044 : decode cX11_readTarga 1044 = .ok (.iand, 1) := by decide +kernel
theorem dX11_readTarga_1045 : decode cX11_readTarga 1045 = .ok (.ifCond .eq 15, 3) := by decide +kernel
theorem dX11_readTarga_1048 : decode cX11_readTarga 1048 = .ok (.aload_n 0, 1) := by decide +kernel
theorem dX11_readTarga_1049 : decode cX11_readTarga 1049 = .ok (.getfield 109, 3) := by decide +kernel
theorem dX11_readTarga_1052 : decode cX11_readTarga 1052 = .ok (.iconst 1, 1) := by decide +kernel
theorem dX11_readTarga_1053 : decode cX11_readTarga 1053 = .ok (.isub, 1) := by decide +kernel
theorem dX11_readTarga_1054 : decode cX11_readTarga 1054 = .ok (.iload 20, 2) := by decide +kernel
theorem dX11_readTarga_1056 : decode cX11_readTarga 1056 = .ok (.isub, 1) := by decide +kernel
theorem dX11_readTarga_1057 : decode cX11_readTarga 1057 = .ok (.goto 5, 3) := by decide +kernel
theorem dX11_readTarga_1060 : decode cX11_readTarga 1060 = .ok (.iload 20, 2) := by decide +kernel
theorem dX11_readTarga_1062 : decode cX11_readTarga 1062 = .ok (.iadd, 1) := by decide +kernel
theorem dX11_readTarga_1063 : decode cX11_readTarga 1063 = .ok (.iload 18, 2) := by decide +kernel
theorem dX11_readTarga_1065 : decode cX11_readTarga 1065 = .ok (.iastore, 1) := by decide +kernel
theorem dX11_readTarga_1066 : decode cX11_readTarga 1066 = .ok (.iinc 19 1, 3) := by decide +kernel
theorem dX11_readTarga_1069 : decode cX11_readTarga 1069 = .ok (.goto (-348), 3) := by decide +kernel
theorem dX11_readTarga_1072 : decode cX11_readTarga 1072 = .ok (.aload_n 0, 1) := by decide +kernel
theorem dX11_readTarga_1073 : decode cX11_readTarga 1073 = .ok (.getfield 84, 3) := by decide +kernel
theorem dX11_readTarga_1076 : decode cX11_readTarga 1076 = .ok (.aload_n 0, 1) := by decide +kernel
theorem dX11_readTarga_1077 : decode cX11_readTarga 1077 = .ok (.getfield 87, 3) := by decide +kernel
theorem dX11_readTarga_1080 : decode cX11_readTarga 1080 = .ok (.if_icmp .eq 22, 3) := by decide +kernel
theorem dX11_readTarga_1083 : decode cX11_readTarga 1083 = .ok (.aload_n 0, 1) := by decide +kernel
theorem dX11_readTarga_1084 : decode cX11_readTarga 1084 = .ok (.invokevirtual 215, 3) := by decide +kernel
theorem dX11_readTarga_1087 : decode cX11_readTarga 1087 = .ok (.ifCond .ne 15, 3) := by decide +kernel
theorem dX11_readTarga_1090 : decode cX11_readTarga 1090 = .ok (.aload_n 0, 1) := by decide +kernel
theorem dX11_readTarga_1091 : decode cX11_readTarga 1091 = .ok (.iconst 5, 1) := by decide +kernel
theorem dX11_readTarga_1092 : decode cX11_readTarga 1092 = .ok (.aload_n 0, 1) := by decide +kernel
theorem dX11_readTarga_1093 : decode cX11_readTarga 1093 = .ok (.getfield 84, 3) := by decide +kernel
theorem dX11_readTarga_1096 : decode cX11_readTarga 1096 = .ok (.invokevirtual 90, 3) := by decide +kernel
theorem dX11_readTarga_1099 : decode cX11_readTarga 1099 = .ok (.ifCond .eq 7, 3) := by decide +kernel
theorem dX11_readTarga_1102 : decode cX11_readTarga 1102 = .ok (.iconst 1, 1) := by decide +kernel
theorem dX11_readTarga_1103 : decode cX11_readTarga 1103 = .ok (.goto 4, 3) := by decide +kernel
theorem dX11_readTarga_1106 : decode cX11_readTarga 1106 = .ok (.iconst 0, 1) := by decide +kernel
theorem dX11_readTarga_1107 : decode cX11_readTarga 1107 = .ok (.ireturn, 1) := by decide +kernel
theorem dX11_colour_0 : decode cX11_colour 0 = .ok (.iload_n 2, 1) := by decide +kernel
theorem dX11_colour_1 : decode cX11_colour 1 = .ok (.bipush 24, 2) := by decide +kernel
theorem dX11_colour_3 : decode cX11_colour 3 = .ok (.if_icmp .lt 51, 3) := by decide +kernel
theorem dX11_colour_6 : decode cX11_colour 6 = .ok (.aload_n 0, 1) := by decide +kernel
theorem dX11_colour_7 : decode cX11_colour 7 = .ok (.iload_n 1, 1) := by decide +kernel
theorem dX11_colour_8 : decode cX11_colour 8 = .ok (.iconst 2, 1) := by decide +kernel
theorem dX11_colour_9 : decode cX11_colour 9 = .ok (.iadd, 1) := by decide +kernel
theorem dX11_colour_10 : decode cX11_colour 10 = .ok (.invokevirtual 99, 3) := by decide +kernel
theorem dX11_colour_13 : decode cX11_colour 13 = .ok (.aload_n 0, 1) := by decide +kernel
theorem dX11_colour_14 : decode cX11_colour 14 = .ok (.iload_n 1, 1) := by decide +kernel
theorem dX11_colour_15 : decode cX11_colour 15 = .ok (.iconst 1, 1) := by decide +kernel
theorem dX11_colour_16 : decode cX11_colour 16 = .ok (.iadd, 1) := by decide +kernel
theorem dX11_colour_17 : decode cX11_colour 17 = .ok (.invokevirtual 99, 3) := by decide +kernel
theorem dX11_colour_20 : decode cX11_colour 20 = .ok (.aload_n 0, 1) := by decide +kernel
theorem dX11_colour_21 : decode cX11_colour 21 = .ok (.iload_n 1, 1) := by decide +kernel
theorem dX11_colour_22 : decode cX11_colour 22 = .ok (.invokevirtual 99, 3) := by decide +kernel
theorem dX11_colour_25 : decode cX11_colour 25 = .ok (.iload_n 2, 1) := by decide +kernel
theorem dX11_colour_26 : decode cX11_colour 26 = .ok (.bipush 32, 2) := by decide +kernel
theorem dX11_colour_28 : decode cX11_colour 28 = .ok (.if_icmp .ne 19, 3) := by decide +kernel
theorem dX11_colour_31 : decode cX11_colour 31 = .ok (.iload_n 3, 1) := by decide +kernel
theorem dX11_colour_32 : decode cX11_colour 32 = .ok (.bipush 8, 2) := by decide +kernel
theorem dX11_colour_34 : decode cX11_colour 34 = .ok (.if_icmp .ne 13, 3) := by decide +kernel
theorem dX11_colour_37 : decode cX11_colour 37 = .ok (.aload_n 0, 1) := by decide +kernel
theorem dX11_colour_38 : decode cX11_colour 38 = .ok (.iload_n 1, 1) := by decide +kernel
theorem dX11_colour_39 : decode cX11_colour 39 = .ok (.iconst 3, 1) := by decide +kernel
theorem dX11_colour_40 : decode cX11_colour 40 = .ok (.iadd, 1) := by decide +kernel
theorem dX11_colour_41 : decode cX11_colour 41 = .ok (.invokevirtual 99, 3) := by decide +kernel
theorem dX11_colour_44 : decode cX11_colour 44 = .ok (.goto 6, 3) := by decide +kernel
theorem dX11_colour_47 : decode cX11_colour 47 = .ok (.sipush 255, 3) := by decide +kernel
theorem dX11_colour_50 : decode cX11_colour 50 = .ok (.invokestatic 115, 3) := by decide +kernel
theorem dX11_colour_53 : decode cX11_colour 53 = .ok (.ireturn, 1) := by decide +kernel
theorem dX11_colour_54 : decode cX11_colour 54 = .ok (.aload_n 0, 1) := by decide +kernel
theorem dX11_colour_55 : decode cX11_colour 55 = .ok (.iload_n 1, 1) := by decide +kernel
theorem dX11_colour_56 : decode cX11_colour 56 = .ok (.iconst 2, 1) := by decide +kernel
theorem dX11_colour_57 : decode cX11_colour 57 = .ok (.invokevirtual 183, 3) := by decide +kernel
theorem dX11_colour_60 : decode cX11_colour 60 = .ok (.l2i, 1) := by decide +kernel
theorem dX11_colour_61 : decode cX11_colour 61 = .ok (.istore 4, 2) := by decide +kernel
theorem dX11_colour_63 : decode cX11_colour 63 = .ok (.iload 4, 2) := by decide +kernel
theorem dX11_colour_65 : decode cX11_colour 65 = .ok (.bipush 10, 2) := by decide +kernel
theorem dX11_colour_67 : decode cX11_colour 67 = .ok (.ishr, 1) := by decide +kernel
theorem dX11_colour_68 : decode cX11_colour 68 = .ok (.bipush 31, 2) := by decide +kernel
theorem dX11_colour_70 : decode cX11_colour 70 = .ok (.iand, 1) := by decide +kernel
theorem dX11_colour_71 : decode cX11_colour 71 = .ok (.invokestatic 201, 3) := by decide +kernel
theorem dX11_colour_74 : decode cX11_colour 74 = .ok (.iload 4, 2) := by decide +kernel
theorem dX11_colour_76 : decode cX11_colour 76 = .ok (.iconst 5, 1) := by decide +kernel
theorem dX11_colour_77 : decode cX11_colour 77 = .ok (.ishr, 1) := by decide +kernel
theorem dX11_colour_78 : decode cX11_colour 78 = .ok (.bipush 31, 2) := by decide +kernel
theorem dX11_colour_80 : decode cX11_colour 80 = .ok (.iand, 1) := by decide +kernel
theorem dX11_colour_81 : decode cX11_colour 81 = .ok (.invokestatic 201, 3) := by decide +kernel
theorem dX11_colour_84 : decode cX11_colour 84 = .ok (.iload 4, 2) := by decide +kernel
theorem dX11_colour_86 : decode cX11_colour 86 = .ok (.bipush 31, 2) := by decide +kernel
theorem dX11_colour_88 : decode cX11_colour 88 = .ok (.iand, 1) := by decide +kernel
theorem dX11_colour_89 : decode cX11_colour 89 = .ok (.invokestatic 201, 3) := by decide +kernel
theorem dX11_colour_92 : decode cX11_colour 92 = .ok (.iload_n 3, 1) := by decide +kernel
theorem dX11_colour_93 : decode cX11_colour 93 = .ok (.iconst 1, 1) := by decide +kernel
theorem dX11_colour_94 : decode cX11_colour 94 = .ok (.if_icmp .ne 15, 3) := by decide +kernel
theorem dX11_colour_97 : decode cX11_colour 97 = .ok (.iload 4, 2) := by decide +kernel
theorem dX11_colour_99 : decode cX11_colour 99 = .ok (.bipush 15, 2) := by decide +kernel
theorem dX11_colour_101 : decode cX11_colour 101 = .ok (.ishr, 1) := by decide +kernel
theorem dX11_colour_102 : decode cX11_colour 102 = .ok (.ifCond .ne 7, 3) := by decide +kernel
theorem dX11_colour_105 : decode cX11_colour 105 = .ok (.iconst 0, 1) := by decide +kernel
theorem dX11_colour_106 : decode cX11_colour 106 = .ok (.goto 6, 3) := by decide +kernel
theorem dX11_colour_109 : decode cX11_colour 109 = .ok (.sipush 255, 3) := by decide +kernel
theorem dX11_colour_112 : decode cX11_colour 112 = .ok (.invokestatic 115, 3) := by decide +kernel
theorem dX11_colour_115 : decode cX11_colour 115 = .ok (.ireturn, 1) := by decide +kernel
theorem dX11_isTail_0 : decode cX11_isTail 0 = .ok (.aload_n 0, 1) := by decide +kernel
theorem dX11_isTail_1 : decode cX11_isTail 1 = .ok (.getfield 87, 3) := by decide +kernel
theorem dX11_isTail_4 : decode cX11_isTail 4 = .ok (.aload_n 0, 1) := by decide +kernel
theorem dX11_isTail_5 : decode cX11_isTail 5 = .ok (.getfield 84, 3) := by decide +kernel
theorem dX11_isTail_8 : decode cX11_isTail 8 = .ok (.isub, 1) := by decide +kernel
theorem dX11_isTail_9 : decode cX11_isTail 9 = .ok (.bipush 26, 2) := by decide +kernel
theorem dX11_isTail_11 : decode cX11_isTail 11 = .ok (.if_icmp .eq 5, 3) := by decide +kernel
theorem dX11_isTail_14 : decode cX11_isTail 14 = .ok (.iconst 0, 1) := by decide +kernel
theorem dX11_isTail_15 : decode cX11_isTail 15 = .ok (.ireturn, 1) := by decide +kernel
theorem dX11_isTail_16 : decode cX11_isTail 16 = .ok (.ldc 218, 2) := by decide +kernel
theorem dX11_isTail_18 : decode cX11_isTail 18 = .ok (.astore_n 1, 1) := by decide +kernel
theorem dX11_isTail_19 : decode cX11_isTail 19 = .ok (.iconst 1, 1) := by decide +kernel
theorem dX11_isTail_20 : decode cX11_isTail 20 = .ok (.istore_n 2, 1) := by decide +kernel
theorem dX11_isTail_21 : decode cX11_isTail 21 = .ok (.iconst 0, 1) := by decide +kernel
theorem dX11_isTail_22 : decode cX11_isTail 22 = .ok (.istore_n 3, 1) := by decide +kernel
theorem dX11_isTail_23 : decode cX11_isTail 23 = .ok (.iload_n 3, 1) := by decide +kernel
theorem dX11_isTail_24 : decode cX11_isTail 24 = .ok (.bipush 26, 2) := by decide +kernel
theorem dX11_isTail_26 : decode cX11_isTail 26 = .ok (.if_icmp .ge 56, 3) := by decide +kernel
theorem dX11_isTail_29 : decode cX11_isTail 29 = .ok (.iload_n 2, 1) := by decide +kernel
theorem dX11_isTail_30 : decode cX11_isTail 30 = .ok (.ifCond .eq 44, 3) := by decide +kernel
theorem dX11_isTail_33 : decode cX11_isTail 33 = .ok (.aload_n 0, 1) := by decide +kernel
theorem dX11_isTail_34 : decode cX11_isTail 34 = .ok (.aload_n 0, 1) := by decide +kernel
theorem dX11_isTail_35 : decode cX11_isTail 35 = .ok (.getfield 84, 3) := by decide +kernel
theorem dX11_isTail_38 : decode cX11_isTail 38 = .ok (.iload_n 3, 1) := by decide +kernel
theorem dX11_isTail_39 : decode cX11_isTail 39 = .ok (.iadd, 1) := by decide +kernel
theorem dX11_isTail_40 : decode cX11_isTail 40 = .ok (.invokevirtual 99, 3) := by decide +kernel
theorem dX11_isTail_43 : decode cX11_isTail 43 = .ok (.iload_n 3, 1) := by decide +kernel
theorem dX11_isTail_44 : decode cX11_isTail 44 = .ok (.bipush 8, 2) := by decide +kernel
theorem dX11_isTail_46 : decode cX11_isTail 46 = .ok (.if_icmp .lt 20, 3) := by decide +kernel
theorem dX11_isTail_49 : decode cX11_isTail 49 = .ok (.iload_n 3, 1) := by decide +kernel
theorem dX11_isTail_50 : decode cX11_isTail 50 = .ok (.bipush 25, 2) := by decide +kernel
theorem dX11_isTail_52 : decode cX11_isTail 52 = .ok (.if_icmp .ge 14, 3) := by decide +kernel
theorem dX11_isTail_55 : decode cX11_isTail 55 = .ok (.aload_n 1, 1) := by decide +kernel
theorem dX11_isTail_56 : decode cX11_isTail 56 = .ok (.iload_n 3, 1) := by decide +kernel
theorem dX11_isTail_57 : decode cX11_isTail 57 = .ok (.bipush 8, 2) := by decide +kernel
theorem dX11_isTail_59 : decode cX11_isTail 59 = .ok (.isub, 1) := by decide +kernel
theorem dX11_isTail_60 : decode cX11_isTail 60 = .ok (.invokevirtual 220, 3) := by decide +kernel
theorem dX11_isTail_63 : decode cX11_isTail 63 = .ok (.goto 4, 3) := by decide +kernel
theorem dX11_isTail_66 : decode cX11_isTail 66 = .ok (.iconst 0, 1) := by decide +kernel
theorem dX11_isTail_67 : decode cX11_isTail 67 = .ok (.if_icmp .ne 7, 3) := by decide +kernel
theorem dX11_isTail_70 : decode cX11_isTail 70 = .ok (.iconst 1, 1) := by decide +kernel
theorem dX11_isTail_71 : decode cX11_isTail 71 = .ok (.goto 4, 3) := by decide +kernel
theorem dX11_isTail_74 : decode cX11_isTail 74 = .ok (.iconst 0, 1) := by decide +kernel
theorem dX11_isTail_75 : decode cX11_isTail 75 = .ok (.istore_n 2, 1) := by decide +kernel
theorem dX11_isTail_76 : decode cX11_isTail 76 = .ok (.iinc 3 1, 3) := by decide +kernel
theorem dX11_isTail_79 : decode cX11_isTail 79 = .ok (.goto (-56), 3) := by decide +kernel
theorem dX11_isTail_82 : decode cX11_isTail 82 = .ok (.iload_n 2, 1) := by decide +kernel
theorem dX11_isTail_83 : decode cX11_isTail 83 = .ok (.ireturn, 1) := by decide +kernel
theorem dX11_readPlanes_0 : decode cX11_readPlanes 0 = .ok (.aload_n 0, 1) := by decide +kernel
theorem dX11_readPlanes_1 : decode cX11_readPlanes 1 = .ok (.bipush 10, 2) := by decide +kernel
theorem dX11_readPlanes_3 : decode cX11_readPlanes 3 = .ok (.invokevirtual 119, 3) := by decide +kernel
theorem dX11_readPlanes_6 : decode cX11_readPlanes 6 = .ok (.ifCond .ne 5, 3) := by decide +kernel
theorem dX11_readPlanes_9 : decode cX11_readPlanes 9 = .ok (.iconst 0, 1) := by decide +kernel
theorem dX11_readPlanes_10 : decode cX11_readPlanes 10 = .ok (.ireturn, 1) := by decide +kernel
theorem dX11_readPlanes_11 : decode cX11_readPlanes 11 = .ok (.aload_n 0, 1) := by decide +kernel
theorem dX11_readPlanes_12 : decode cX11_readPlanes 12 = .ok (.iconst 1, 1) := by decide +kernel
theorem dX11_readPlanes_13 : decode cX11_readPlanes 13 = .ok (.invokevirtual 103, 3) := by decide +kernel
theorem dX11_readPlanes_16 : decode cX11_readPlanes 16 = .ok (.ifCond .ne 5, 3) := by decide +kernel
theorem dX11_readPlanes_19 : decode cX11_readPlanes 19 = .ok (.iconst 0, 1) := by decide +kernel
theorem dX11_readPlanes_20 : decode cX11_readPlanes 20 = .ok (.ireturn, 1) := by decide +kernel
theorem dX11_readPlanes_21 : decode cX11_readPlanes 21 = .ok (.aload_n 0, 1) := by decide +kernel
theorem dX11_readPlanes_22 : decode cX11_readPlanes 22 = .ok (.iconst 1, 1) := by decide +kernel
theorem dX11_readPlanes_23 : decode cX11_readPlanes 23 = .ok (.invokevirtual 99, 3) := by decide +kernel
theorem dX11_readPlanes_26 : decode cX11_readPlanes 26 = .ok (.istore_n 1, 1) := by decide +kernel
theorem dX11_readPlanes_27 : decode cX11_readPlanes 27 = .ok (.iload_n 1, 1) := by decide +kernel
theorem dX11_readPlanes_28 : decode cX11_readPlanes 28 = .ok (.iconst 1, 1) := by decide +kernel
theorem dX11_readPlanes_29 : decode cX11_readPlanes 29 = .ok (.if_icmp .eq 8, 3) := by decide +kernel
theorem dX11_readPlanes_32 : decode cX11_readPlanes 32 = .ok (.iload_n 1, 1) := by decide +kernel
theorem dX11_readPlanes_33 : decode cX11_readPlanes 33 = .ok (.iconst 5, 1) := by decide +kernel
theorem dX11_readPlanes_34 : decode cX11_readPlanes 34 = .ok (.if_icmp .le 10, 3) := by decide +kernel
theorem dX11_readPlanes_37 : decode cX11_readPlanes 37 = .ok (.aload_n 0, 1) := by decide +kernel
theorem dX11_readPlanes_38 : decode cX11_readPlanes 38 = .ok (.iconst 2, 1) := by decide +kernel
theorem dX11_readPlanes_39 : decode cX11_readPlanes 39 = .ok (.iconst 1, 1) := by decide +kernel
theorem dX11_readPlanes_40 : decode cX11_readPlanes 40 = .ok (.invokevirtual 90, 3) := by decide +kernel
theorem dX11_readPlanes_43 : decode cX11_readPlanes 43 = .ok (.ireturn, 1) := by decide +kernel
theorem dX11_readPlanes_44 : decode cX11_readPlanes 44 = .ok (.aload_n 0, 1) := by decide +kernel
theorem dX11_readPlanes_45 : decode cX11_readPlanes 45 = .ok (.iconst 2, 1) := by decide +kernel
theorem dX11_readPlanes_46 : decode cX11_readPlanes 46 = .ok (.putfield 84, 3) := by decide +kernel
theorem dX11_readPlanes_49 : decode cX11_readPlanes 49 = .ok (.aload_n 0, 1) := by decide +kernel
theorem dX11_readPlanes_50 : decode cX11_readPlanes 50 = .ok (.iconst 1, 1) := by decide +kernel
theorem dX11_readPlanes_51 : decode cX11_readPlanes 51 = .ok (.invokevirtual 119, 3) := by decide +kernel
theorem dX11_readPlanes_54 : decode cX11_readPlanes 54 = .ok (.ifCond .ne 5, 3) := by decide +kernel
theorem dX11_readPlanes_57 : decode cX11_readPlanes 57 = .ok (.iconst 0, 1) := by decide +kernel
theorem dX11_readPlanes_58 : decode cX11_readPlanes 58 = .ok (.ireturn, 1) := by decide +kernel
theorem dX11_readPlanes_59 : decode cX11_readPlanes 59 = .ok (.aload_n 0, 1) := by decide +kernel
theorem dX11_readPlanes_60 : decode cX11_readPlanes 60 = .ok (.iconst 1, 1) := by decide +kernel
theorem dX11_readPlanes_61 : decode cX11_readPlanes 61 = .ok (.invokevirtual 103, 3) := by decide +kernel
theorem dX11_readPlanes_64 : decode cX11_readPlanes 64 = .ok (.ifCond .ne 5, 3) := by decide +kernel
theorem dX11_readPlanes_67 : decode cX11_readPlanes 67 = .ok (.iconst 0, 1) := by decide +kernel
theorem dX11_readPlanes_68 : decode cX11_readPlanes 68 = .ok (.ireturn, 1) := by decide +kernel
theorem dX11_readPlanes_69 : decode cX11_readPlanes 69 = .ok (.aload_n 0, 1) := by decide +kernel
theorem dX11_readPlanes_70 : decode cX11_readPlanes 70 = .ok (.iconst 3, 1) := by decide +kernel
theorem dX11_readPlanes_71 : decode cX11_readPlanes 71 = .ok (.invokevirtual 99, 3) := by decide +kernel
theorem dX11_readPlanes_74 : decode cX11_readPlanes 74 = .ok (.istore_n 2, 1) := by decide +kernel
theorem dX11_readPlanes_75 : decode cX11_readPlanes 75 = .ok (.iload_n 2, 1) := by decide +kernel
theorem dX11_readPlanes_76 : decode cX11_readPlanes 76 = .ok (.iconst 1, 1) := by decide +kernel
theorem dX11_readPlanes_77 : decode cX11_readPlanes 77 = .ok (.if_icmp .eq 26, 3) := by decide +kernel
theorem dX11_readPlanes_80 : decode cX11_readPlanes 80 = .ok (.iload_n 2, 1) := by decide +kernel
theorem dX11_readPlanes_81 : decode cX11_readPlanes 81 = .ok (.iconst 2, 1) := by decide +kernel
theorem dX11_readPlanes_82 : decode cX11_readPlanes 82 = .ok (.if_icmp .eq 21, 3) := by decide +kernel
theorem dX11_readPlanes_85 : decode cX11_readPlanes 85 = .ok (.iload_n 2, 1) := by decide +kernel
theorem dX11_readPlanes_86 : decode cX11_readPlanes 86 = .ok (.iconst 4, 1) := by decide +kernel
theorem dX11_readPlanes_87 : decode cX11_readPlanes 87 = .ok (.if_icmp .eq 16, 3) := by decide +kernel
theorem dX11_readPlanes_90 : decode cX11_readPlanes 90 = .ok (.iload_n 2, 1) := by decide +kernel
theorem dX11_readPlanes_91 : decode cX11_readPlanes 91 = .ok (.bipush 8, 2) := by decide +kernel
theorem dX11_readPlanes_93 : decode cX11_readPlanes 93 = .ok (.if_icmp .eq 10, 3) := by decide +kernel
theorem dX11_readPlanes_96 : decode cX11_readPlanes 96 = .ok (.aload_n 0, 1) := by decide +kernel
theorem dX11_readPlanes_97 : decode cX11_readPlanes 97 = .ok (.iconst 2, 1) := by decide +kernel
theorem dX11_readPlanes_98 : decode cX11_readPlanes 98 = .ok (.iconst 3, 1) := by decide +kernel
theorem dX11_readPlanes_99 : decode cX11_readPlanes 99 = .ok (.invokevirtual 90, 3) := by decide +kernel
theorem dX11_readPlanes_102 : decode cX11_readPlanes 102 = .ok (.ireturn, 1) := by decide +kernel
theorem dX11_readPlanes_103 : decode cX11_readPlanes 103 = .ok (.aload_n 0, 1) := by decide +kernel
theorem dX11_readPlanes_104 : decode cX11_readPlanes 104 = .ok (.iconst 4, 1) := by decide +kernel
theorem dX11_readPlanes_105 : decode cX11_readPlanes 105 = .ok (.putfield 84, 3) := by decide +kernel
theorem dX11_readPlanes_108 : decode cX11_readPlanes 108 = .ok (.aload_n 0, 1) := by decide +kernel
theorem dX11_readPlanes_109 : decode cX11_readPlanes 109 = .ok (.getfield 84, 3) := by decide +kernel
theorem dX11_readPlanes_112 : decode cX11_readPlanes 112 = .ok (.bipush 8, 2) := by decide +kernel
theorem dX11_readPlanes_114 : decode cX11_readPlanes 114 = .ok (.if_icmp .ge 26, 3) := by decide +kernel
theorem dX11_readPlanes_117 : decode cX11_readPlanes 117 = .ok (.aload_n 0, 1) := by decide +kernel
theorem dX11_readPlanes_118 : decode cX11_readPlanes 118 = .ok (.iconst 2, 1) := by decide +kernel
theorem dX11_readPlanes_119 : decode cX11_readPlanes 119 = .ok (.invokevirtual 103, 3) := by decide +kernel
theorem dX11_readPlanes_122 : decode cX11_readPlanes 122 = .ok (.ifCond .ne 5, 3) := by decide +kernel
theorem dX11_readPlanes_125 : decode cX11_readPlanes 125 = .ok (.iconst 0, 1) := by decide +kernel
theorem dX11_readPlanes_126 : decode cX11_readPlanes 126 = .ok (.ireturn, 1) := by decide +kernel
theorem dX11_readPlanes_127 : decode cX11_readPlanes 127 = .ok (.aload_n 0, 1) := by decide +kernel
theorem dX11_readPlanes_128 : decode cX11_readPlanes 128 = .ok (.dup, 1) := by decide +kernel
theorem dX11_readPlanes_129 : decode cX11_readPlanes 129 = .ok (.getfield 84, 3) := by decide +kernel
theorem dX11_readPlanes_132 : decode cX11_readPlanes 132 = .ok (.iconst 2, 1) := by decide +kernel
theorem dX11_readPlanes_133 : decode cX11_readPlanes 133 = .ok (.iadd, 1) := by decide +kernel
theorem dX11_readPlanes_134 : decode cX11_readPlanes 134 = .ok (.putfield 84, 3) := by decide +kernel
theorem dX11_readPlanes_137 : decode cX11_readPlanes 137 = .ok (.goto (-29), 3) := by decide +kernel
theorem dX11_readPlanes_140 : decode cX11_readPlanes 140 = .ok (.aload_n 0, 1) := by decide +kernel
theorem dX11_readPlanes_141 : decode cX11_readPlanes 141 = .ok (.iconst 2, 1) := by decide +kernel
theorem dX11_readPlanes_142 : decode cX11_readPlanes 142 = .ok (.invokevirtual 103, 3) := by decide +kernel
theorem dX11_readPlanes_145 : decode cX11_readPlanes 145 = .ok (.ifCond .ne 5, 3) := by decide +kernel
theorem dX11_readPlanes_148 : decode cX11_readPlanes 148 = .ok (.iconst 0, 1) := by decide +kernel
theorem dX11_readPlanes_149 : decode cX11_readPlanes 149 = .ok (.ireturn, 1) := by decide +kernel
theorem dX11_readPlanes_150 : decode cX11_readPlanes 150 = .ok (.aload_n 0, 1) := by decide +kernel
theorem dX11_readPlanes_151 : decode cX11_readPlanes 151 = .ok (.bipush 8, 2) := by decide +kernel
theorem dX11_readPlanes_153 : decode cX11_readPlanes 153 = .ok (.iconst 2, 1) := by decide +kernel
theorem dX11_readPlanes_154 : decode cX11_readPlanes 154 = .ok (.invokevirtual 183, 3) := by decide +kernel
theorem dX11_readPlanes_157 : decode cX11_readPlanes 157 = .ok (.aload_n 0, 1) := by decide +kernel
theorem dX11_readPlanes_158 : decode cX11_readPlanes 158 = .ok (.iconst 4, 1) := by decide +kernel
theorem dX11_readPlanes_159 : decode cX11_readPlanes 159 = .ok (.iconst 2, 1) := by decide +kernel
theorem dX11_readPlanes_160 : decode cX11_readPlanes 160 = .ok (.invokevirtual 183, 3) := by decide +kernel
theorem dX11_readPlanes_163 : decode cX11_readPlanes 163 = .ok (.lsub, 1) := by decide +kernel
theorem dX11_readPlanes_164 : decode cX11_readPlanes 164 = .ok (.lconst 1, 1) := by decide +kernel
theorem dX11_readPlanes_165 : decode cX11_readPlanes 165 = .ok (.ladd, 1) := by decide +kernel
theorem dX11_readPlanes_166 : decode cX11_readPlanes 166 = .ok (.lstore_n 3, 1) := by decide +kernel
theorem dX11_readPlanes_167 : decode cX11_readPlanes 167 = .ok (.lload_n 3, 1) := by decide +kernel
theorem dX11_readPlanes_168 : decode cX11_readPlanes 168 = .ok (.lconst 1, 1) := by decide +kernel
theorem dX11_readPlanes_169 : decode cX11_readPlanes 169 = .ok (.lcmp, 1) := by decide +kernel
theorem dX11_readPlanes_170 : decode cX11_readPlanes 170 = .ok (.ifCond .ge 11, 3) := by decide +kernel
theorem dX11_readPlanes_173 : decode cX11_readPlanes 173 = .ok (.aload_n 0, 1) := by decide +kernel
theorem dX11_readPlanes_174 : decode cX11_readPlanes 174 = .ok (.iconst 2, 1) := by decide +kernel
theorem dX11_readPlanes_175 : decode cX11_readPlanes 175 = .ok (.bipush 8, 2) := by decide +kernel
theorem dX11_readPlanes_177 : decode cX11_readPlanes 177 = .ok (.invokevirtual 90, 3) := by decide +kernel
theorem dX11_readPlanes_180 : decode cX11_readPlanes 180 = .ok (.ireturn, 1) := by decide +kernel
theorem dX11_readPlanes_181 : decode cX11_readPlanes 181 = .ok (.aload_n 0, 1) := by decide +kernel
theorem dX11_readPlanes_182 : decode cX11_readPlanes 182 = .ok (.bipush 10, 2) := by decide +kernel
theorem dX11_readPlanes_184 : decode cX11_readPlanes 184 = .ok (.putfield 84, 3) := by decide +kernel
theorem dX11_readPlanes_187 : decode cX11_readPlanes 187 = .ok (.aload_n 0, 1) := by decide +kernel
theorem dX11_readPlanes_188 : decode cX11_readPlanes 188 = .ok (.iconst 2, 1) := by decide +kernel
theorem dX11_readPlanes_189 : decode cX11_readPlanes 189 = .ok (.invokevirtual 103, 3) := by decide +kernel
theorem dX11_readPlanes_192 : decode cX11_readPlanes 192 = .ok (.ifCond .ne 5, 3) := by decide +kernel
theorem dX11_readPlanes_195 : decode cX11_readPlanes 195 = .ok (.iconst 0, 1) := by decide +kernel
theorem dX11_readPlanes_196 : decode cX11_readPlanes 196 = .ok (.ireturn, 1) := by decide +kernel
theorem dX11_readPlanes_197 : decode cX11_readPlanes 197 = .ok (.aload_n 0, 1) := by decide +kernel
theorem dX11_readPlanes_198 : decode cX11_readPlanes 198 = .ok (.bipush 10, 2) := by decide +kernel
theorem dX11_readPlanes_200 : decode cX11_readPlanes 200 = .ok (.iconst 2, 1) := by decide +kernel
theorem dX11_readPlanes_201 : decode cX11_readPlanes 201 = .ok (.invokevirtual 183, 3) := by decide +kernel
theorem dX11_readPlanes_204 : decode cX11_readPlanes 204 = .ok (.aload_n 0, 1) := by decide +kernel
theorem dX11_readPlanes_205 : decode cX11_readPlanes 205 = .ok (.bipush 6, 2) := by decide +kernel
theorem dX11_readPlanes_207 : decode cX11_readPlanes 207 = .ok (.iconst 2, 1) := by decide +kernel
theorem dX11_readPlanes_208 : decode cX11_readPlanes 208 = .ok (.invokevirtual 183, 3) := by decide +kernel
theorem dX11_readPlanes_211 : decode cX11_readPlanes 211 = .ok (.lsub, 1) := by decide +kernel
theorem dX11_readPlanes_212 : decode cX11_readPlanes 212 = .ok (.lconst 1, 1) := by decide +kernel
theorem dX11_readPlanes_213 : decode cX11_readPlanes 213 = .ok (.ladd, 1) := by decide +kernel
theorem dX11_readPlanes_214 : decode cX11_readPlanes 214 = .ok (.lstore 5, 2) := by decide +kernel
theorem dX11_readPlanes_216 : decode cX11_readPlanes 216 = .ok (.lload 5, 2) := by decide +kernel
theorem dX11_readPlanes_218 : decode cX11_readPlanes 218 = .ok (.lconst 1, 1) := by decide +kernel
theorem dX11_readPlanes_219 : decode cX11_readPlanes 219 = .ok (.lcmp, 1) := by decide +kernel
theorem dX11_readPlanes_220 : decode cX11_readPlanes 220 = .ok (.ifCond .ge 11, 3) := by decide +kernel
theorem dX11_readPlanes_223 : decode cX11_readPlanes 223 = .ok (.aload_n 0, 1) := by decide +kernel
theorem dX11_readPlanes_224 : decode cX11_readPlanes 224 = .ok (.iconst 2, 1) := by decide +kernel
theorem dX11_readPlanes_225 : decode cX11_readPlanes 225 = .ok (.bipush 10, 2) := by decide +kernel
theorem dX11_readPlanes_227 : decode cX11_readPlanes 227 = .ok (.invokevirtual 90, 3) := by decide +kernel
theorem dX11_readPlanes_230 : decode cX11_readPlanes 230 = .ok (.ireturn, 1) := by decide +kernel
theorem dX11_readPlanes_231 : decode cX11_readPlanes 231 = .ok (.aload_n 0, 1) := by decide +kernel
theorem dX11_readPlanes_232 : decode cX11_readPlanes 232 = .ok (.lload_n 3, 1) := by decide +kernel
theorem dX11_readPlanes_233 : decode cX11_readPlanes 233 = .ok (.lload 5, 2) := by decide +kernel
theorem dX11_readPlanes_235 : decode cX11_readPlanes 235 = .ok (.bipush 10, 2) := by decide +kernel
theorem dX11_readPlanes_237 : decode cX11_readPlanes 237 = .ok (.invokevirtual 126, 3) := by decide +kernel
theorem dX11_readPlanes_240 : decode cX11_readPlanes 240 = .ok (.ifCond .ne 5, 3) := by decide +kernel
theorem dX11_readPlanes_243 : decode cX11_readPlanes 243 = .ok (.iconst 0, 1) := by decide +kernel
theorem dX11_readPlanes_244 : decode cX11_readPlanes 244 = .ok (.ireturn, 1) := by decide +kernel
theorem dX11_readPlanes_245 : decode cX11_readPlanes 245 = .ok (.aload_n 0, 1) := by decide +kernel
theorem dX11_readPlanes_246 : decode cX11_readPlanes 246 = .ok (.bipush 12, 2) := by decide +kernel
theorem dX11_readPlanes_248 : decode cX11_readPlanes 248 = .ok (.putfield 84, 3) := by decide +kernel
theorem dX11_readPlanes_251 : decode cX11_readPlanes 251 = .ok (.aload_n 0, 1) := by decide +kernel
theorem dX11_readPlanes_252 : decode cX11_readPlanes 252 = .ok (.getfield 84, 3) := by decide +kernel
theorem dX11_readPlanes_255 : decode cX11_readPlanes 255 = .ok (.bipush 16, 2) := by decide +kernel
theorem dX11_readPlanes_257 : decode cX11_readPlanes 257 = .ok (.if_icmp .ge 26, 3) := by decide +kernel
theorem dX11_readPlanes_260 : decode cX11_readPlanes 260 = .ok (.aload_n 0, 1) := by decide +kernel
theorem dX11_readPlanes_261 : decode cX11_readPlanes 261 = .ok (.iconst 2, 1) := by decide +kernel
theorem dX11_readPlanes_262 : decode cX11_readPlanes 262 = .ok (.invokevirtual 103, 3) := by decide +kernel
theorem dX11_readPlanes_265 : decode cX11_readPlanes 265 = .ok (.ifCond .ne 5, 3) := by decide +kernel
theorem dX11_readPlanes_268 : decode cX11_readPlanes 268 = .ok (.iconst 0, 1) := by decide +kernel
theorem dX11_readPlanes_269 : decode cX11_readPlanes 269 = .ok (.ireturn, 1) := by decide +kernel
theorem dX11_readPlanes_270 : decode cX11_readPlanes 270 = .ok (.aload_n 0, 1) := by decide +kernel
theorem dX11_readPlanes_271 : decode cX11_readPlanes 271 = .ok (.dup, 1) := by decide +kernel
theorem dX11_readPlanes_272 : decode cX11_readPlanes 272 = .ok (.getfield 84, 3) := by decide +kernel
theorem dX11_readPlanes_275 : decode cX11_readPlanes 275 = .ok (.iconst 2, 1) := by decide +kernel
theorem dX11_readPlanes_276 : decode cX11_readPlanes 276 = .ok (.iadd, 1) := by decide +kernel
theorem dX11_readPlanes_277 : decode cX11_readPlanes 277 = .ok (.putfield 84, 3) := by decide +kernel
theorem dX11_readPlanes_280 : decode cX11_readPlanes 280 = .ok (.goto (-29), 3) := by decide +kernel
theorem dX11_readPlanes_283 : decode cX11_readPlanes 283 = .ok (.aload_n 0, 1) := by decide +kernel
theorem dX11_readPlanes_284 : decode cX11_readPlanes 284 = .ok (.bipush 48, 2) := by decide +kernel
theorem dX11_readPlanes_286 : decode cX11_readPlanes 286 = .ok (.invokevirtual 103, 3) := by decide +kernel
theorem dX11_readPlanes_289 : decode cX11_readPlanes 289 = .ok (.ifCond .ne 5, 3) := by decide +kernel
theorem dX11_readPlanes_292 : decode cX11_readPlanes 292 = .ok (.iconst 0, 1) := by decide +kernel
theorem dX11_readPlanes_293 : decode cX11_readPlanes 293 = .ok (.ireturn, 1) := by decide +kernel
theorem dX11_readPlanes_294 : decode cX11_readPlanes 294 = .ok (.iconst 0, 1) := by decide +kernel
theorem dX11_readPlanes_295 : decode cX11_readPlanes 295 = .ok (.istore 7, 2) := by decide +kernel
theorem dX11_readPlanes_297 : decode cX11_readPlanes 297 = .ok (.iload 7, 2) := by decide +kernel
theorem dX11_readPlanes_299 : decode cX11_readPlanes 299 = .ok (.bipush 16, 2) := by decide +kernel
theorem dX11_readPlanes_301 : decode cX11_readPlanes 301 = .ok (.if_icmp .ge 55, 3) := by decide +kernel
theorem dX11_readPlanes_304 : decode cX11_readPlanes 304 = .ok (.aload_n 0, 1) := by decide +kernel
theorem dX11_readPlanes_305 : decode cX11_readPlanes 305 = .ok (.getfield 49, 3) := by decide +kernel
theorem dX11_readPlanes_308 : decode cX11_readPlanes 308 = .ok (.iload 7, 2) := by decide +kernel
theorem dX11_readPlanes_310 : decode cX11_readPlanes 310 = .ok (.aload_n 0, 1) := by decide +kernel
theorem dX11_readPlanes_311 : decode cX11_readPlanes 311 = .ok (.bipush 16, 2) := by decide +kernel
theorem dX11_readPlanes_313 : decode cX11_readPlanes 313 = .ok (.iconst 3, 1) := by decide +kernel
theorem dX11_readPlanes_314 : decode cX11_readPlanes 314 = .ok (.iload 7, 2) := by decide +kernel
theorem dX11_readPlanes_316 : decode cX11_readPlanes 316 = .ok (.imul, 1) := by decide +kernel
theorem dX11_readPlanes_317 : decode cX11_readPlanes 317 = .ok (.iadd, 1) := by decide +kernel
theorem dX11_readPlanes_318 : decode cX11_readPlanes 318 = .ok (.invokevirtual 99, 3) := by decide +kernel
theorem dX11_readPlanes_321 : decode cX11_readPlanes 321 = .ok (.aload_n 0, 1) := by decide +kernel
theorem dX11_readPlanes_322 : decode cX11_readPlanes 322 = .ok (.bipush 17, 2) := by decide +kernel
theorem dX11_readPlanes_324 : decode cX11_readPlanes 324 = .ok (.iconst 3, 1) := by decide +kernel
theorem dX11_readPlanes_325 : decode cX11_readPlanes 325 = .ok (.iload 7, 2) := by decide +kernel
theorem dX11_readPlanes_327 : decode cX11_readPlanes 327 = .ok (.imul, 1) := by decide +kernel
theorem dX11_readPlanes_328 : decode cX11_readPlanes 328 = .ok (.iadd, 1) := by decide +kernel
theorem dX11_readPlanes_329 : decode cX11_readPlanes 329 = .ok (.invokevirtual 99, 3) := by decide +kernel
theorem dX11_readPlanes_332 : decode cX11_readPlanes 332 = .ok (.aload_n 0, 1) := by decide +kernel
theorem dX11_readPlanes_333 : decode cX11_readPlanes 333 = .ok (.bipush 18, 2) := by decide +kernel
theorem dX11_readPlanes_335 : decode cX11_readPlanes 335 = .ok (.iconst 3, 1) := by decide +kernel
theorem dX11_readPlanes_336 : decode cX11_readPlanes 336 = .ok (.iload 7, 2) := by decide +kernel
theorem dX11_readPlanes_338 : decode cX11_readPlanes 338 = .ok (.imul, 1) := by decide +kernel
theorem dX11_readPlanes_339 : decode cX11_readPlanes 339 = .ok (.iadd, 1) := by decide +kernel
theorem dX11_readPlanes_340 : decode cX11_readPlanes 340 = .ok (.invokevirtual 99, 3) := by decide +kernel
theorem dX11_readPlanes_343 : decode cX11_readPlanes 343 = .ok (.sipush 255, 3) := by decide +kernel
theorem dX11_readPlanes_346 : decode cX11_readPlanes 346 = .ok (.invokestatic 115, 3) := by decide +kernel
theorem dX11_readPlanes_349 : decode cX11_readPlanes 349 = .ok (.iastore, 1) := by decide +kernel
theorem dX11_readPlanes_350 : decode cX11_readPlanes 350 = .ok (.iinc 7 1, 3) := by decide +kernel
theorem dX11_readPlanes_353 : decode cX11_readPlanes 353 = .ok (.goto (-56), 3) := by decide +kernel
theorem dX11_readPlanes_356 : decode cX11_readPlanes 356 = .ok (.aload_n 0, 1) := by decide +kernel
theorem dX11_readPlanes_357 : decode cX11_readPlanes 357 = .ok (.bipush 64, 2) := by decide +kernel
theorem dX11_readPlanes_359 : decode cX11_readPlanes 359 = .ok (.putfield 84, 3) := by decide +kernel
theorem dX11_readPlanes_362 : decode cX11_readPlanes 362 = .ok (.aload_n 0, 1) := by decide +kernel
theorem dX11_readPlanes_363 : decode cX11_readPlanes 363 = .ok (.iconst 1, 1) := by decide +kernel
theorem dX11_readPlanes_364 : decode cX11_readPlanes 364 = .ok (.invokevirtual 103, 3) := by decide +kernel
theorem dX11_readPlanes_367 : decode cX11_readPlanes 367 = .ok (.ifCond .ne 5, 3) := by decide +kernel
theorem dX11_readPlanes_370 : decode cX11_readPlanes 370 = .ok (.iconst 0, 1) := by decide +kernel
theorem dX11_readPlanes_371 : decode cX11_readPlanes 371 = .ok (.ireturn, 1) := by decide +kernel
theorem dX11_readPlanes_372 : decode cX11_readPlanes 372 = .ok (.aload_n 0, 1) := by decide +kernel
theorem dX11_readPlanes_373 : decode cX11_readPlanes 373 = .ok (.bipush 65, 2) := by decide +kernel
theorem dX11_readPlanes_375 : decode cX11_readPlanes 375 = .ok (.putfield 84, 3) := by decide +kernel
theorem dX11_readPlanes_378 : decode cX11_readPlanes 378 = .ok (.aload_n 0, 1) := by decide +kernel
theorem dX11_readPlanes_379 : decode cX11_readPlanes 379 = .ok (.iconst 1, 1) := by decide +kernel
theorem dX11_readPlanes_380 : decode cX11_readPlanes 380 = .ok (.invokevirtual 103, 3) := by decide +kernel
theorem dX11_readPlanes_383 : decode cX11_readPlanes 383 = .ok (.ifCond .ne 5, 3) := by decide +kernel
theorem dX11_readPlanes_386 : decode cX11_readPlanes 386 = .ok (.iconst 0, 1) := by decide +kernel
theorem dX11_readPlanes_387 : decode cX11_readPlanes 387 = .ok (.ireturn, 1) := by decide +kernel
theorem dX11_readPlanes_388 : decode cX11_readPlanes 388 = .ok (.aload_n 0, 1) := by decide +kernel
theorem dX11_readPlanes_389 : decode cX11_readPlanes 389 = .ok (.bipush 65, 2) := by decide +kernel
theorem dX11_readPlanes_391 : decode cX11_readPlanes 391 = .ok (.invokevirtual 99, 3) := by decide +kernel
theorem dX11_readPlanes_394 : decode cX11_readPlanes 394 = .ok (.istore 7, 2) := by decide +kernel
theorem dX11_readPlanes_396 : decode cX11_readPlanes 396 = .ok (.iload_n 2, 1) := by decide +kernel
theorem dX11_readPlanes_397 : decode cX11_readPlanes 397 = .ok (.iconst 1, 1) := by decide +kernel
theorem dX11_readPlanes_398 : decode cX11_readPlanes 398 = .ok (.if_icmp .ne 18, 3) := by decide +kernel
theorem dX11_readPlanes_401 : decode cX11_readPlanes 401 = .ok (.iload 7, 2) := by decide +kernel
theorem dX11_readPlanes_403 : decode cX11_readPlanes 403 = .ok (.iconst 1, 1) := by decide +kernel
theorem dX11_readPlanes_404 : decode cX11_readPlanes 404 = .ok (.if_icmp .lt 44, 3) := by decide +kernel
theorem dX11_readPlanes_407 : decode cX11_readPlanes 407 = .ok (.iload 7, 2) := by decide +kernel
theorem dX11_readPlanes_409 : decode cX11_readPlanes 409 = .ok (.iconst 4, 1) := by decide +kernel
theorem dX11_readPlanes_410 : decode cX11_readPlanes 410 = .ok (.if_icmp .le 46, 3) := by decide +kernel
theorem dX11_readPlanes_413 : decode cX11_readPlanes 413 = .ok (.goto 35, 3) := by decide +kernel
theorem dX11_readPlanes_416 : decode cX11_readPlanes 416 = .ok (.iload_n 2, 1) := by decide +kernel
theorem dX11_readPlanes_417 : decode cX11_readPlanes 417 = .ok (.bipush 8, 2) := by decide +kernel
theorem dX11_readPlanes_419 : decode cX11_readPlanes 419 = .ok (.if_icmp .ge 12, 3) := by decide +kernel
theorem dX11_readPlanes_422 : decode cX11_readPlanes 422 = .ok (.iload 7, 2) := by decide +kernel
theorem dX11_readPlanes_424 : decode cX11_readPlanes 424 = .ok (.iconst 1, 1) := by decide +kernel
theorem dX11_readPlanes_425 : decode cX11_readPlanes 425 = .ok (.if_icmp .eq 31, 3) := by decide +kernel
theorem dX11_readPlanes_428 : decode cX11_readPlanes 428 = .ok (.goto 20, 3) := by decide +kernel
theorem dX11_readPlanes_431 : decode cX11_readPlanes 431 = .ok (.iload 7, 2) := by decide +kernel
theorem dX11_readPlanes_433 : decode cX11_readPlanes 433 = .ok (.iconst 1, 1) := by decide +kernel
theorem dX11_readPlanes_434 : decode cX11_readPlanes 434 = .ok (.if_icmp .eq 9, 3) := by decide +kernel
theorem dX11_readPlanes_437 : decode cX11_readPlanes 437 = .ok (.iload 7, 2) := by decide +kernel
theorem dX11_readPlanes_439 : decode cX11_readPlanes 439 = .ok (.iconst 3, 1) := by decide +kernel
theorem dX11_readPlanes_440 : decode cX11_readPlanes 440 = .ok (.if_icmp .ne 8, 3) := by decide +kernel
theorem dX11_readPlanes_443 : decode cX11_readPlanes 443 = .ok (.iload_n 1, 1) := by decide +kernel
theorem dX11_readPlanes_444 : decode cX11_readPlanes 444 = .ok (.iconst 5, 1) := by decide +kernel
theorem dX11_readPlanes_445 : decode cX11_readPlanes 445 = .ok (.if_icmp .eq 11, 3) := by decide +kernel
theorem dX11_readPlanes_448 : decode cX11_readPlanes 448 = .ok (.aload_n 0, 1) := by decide +kernel
theorem dX11_readPlanes_449 : decode cX11_readPlanes 449 = .ok (.iconst 2, 1) := by decide +kernel
theorem dX11_readPlanes_450 : decode cX11_readPlanes 450 = .ok (.bipush 65, 2) := by decide +kernel
theorem dX11_readPlanes_452 : decode cX11_readPlanes 452 = .ok (.invokevirtual 90, 3) := by decide +kernel
theorem dX11_readPlanes_455 : decode cX11_readPlanes 455 = .ok (.ireturn, 1) := by decide +kernel
theorem dX11_readPlanes_456 : decode cX11_readPlanes 456 = .ok (.aload_n 0, 1) := by decide +kernel
theorem dX11_readPlanes_457 : decode cX11_readPlanes 457 = .ok (.bipush 66, 2) := by decide +kernel
theorem dX11_readPlanes_459 : decode cX11_readPlanes 459 = .ok (.putfield 84, 3) := by decide +kernel
theorem dX11_readPlanes_462 : decode cX11_readPlanes 462 = .ok (.aload_n 0, 1) := by decide +kernel
theorem dX11_readPlanes_463 : decode cX11_readPlanes 463 = .ok (.iconst 2, 1) := by decide +kernel
theorem dX11_readPlanes_464 : decode cX11_readPlanes 464 = .ok (.invokevirtual 103, 3) := by decide +kernel
theorem dX11_readPlanes_467 : decode cX11_readPlanes 467 = .ok (.ifCond .ne 5, 3) := by decide +kernel
theorem dX11_readPlanes_470 : decode cX11_readPlanes 470 = .ok (.iconst 0, 1) := by decide +kernel
theorem dX11_readPlanes_471 : decode cX11_readPlanes 471 = .ok (.ireturn, 1) := by decide +kernel
theorem dX11_readPlanes_472 : decode cX11_readPlanes 472 = .ok (.aload_n 0, 1) := by decide +kernel
theorem dX11_readPlanes_473 : decode cX11_readPlanes 473 = .ok (.bipush 66, 2) := by decide +kernel
theorem dX11_readPlanes_475 : decode cX11_readPlanes 475 = .ok (.iconst 2, 1) := by decide +kernel
theorem dX11_readPlanes_476 : decode cX11_readPlanes 476 = .ok (.invokevirtual 183, 3) := by decide +kernel
theorem dX11_readPlanes_479 : decode cX11_readPlanes 479 = .ok (.l2i, 1) := by decide +kernel
theorem dX11_readPlanes_480 : decode cX11_readPlanes 480 = .ok (.istore 8, 2) := by decide +kernel
theorem dX11_readPlanes_482 : decode cX11_readPlanes 482 = .ok (.aload_n 0, 1) := by decide +kernel
theorem dX11_readPlanes_483 : decode cX11_readPlanes 483 = .ok (.getfield 109, 3) := by decide +kernel
theorem dX11_readPlanes_486 : decode cX11_readPlanes 486 = .ok (.iload_n 2, 1) := by decide +kernel
theorem dX11_readPlanes_487 : decode cX11_readPlanes 487 = .ok (.imul, 1) := by decide +kernel
theorem dX11_readPlanes_488 : decode cX11_readPlanes 488 = .ok (.bipush 7, 2) := by decide +kernel
theorem dX11_readPlanes_490 : decode cX11_readPlanes 490 = .ok (.iadd, 1) := by decide +kernel
theorem dX11_readPlanes_491 : decode cX11_readPlanes 491 = .ok (.bipush 8, 2) := by decide +kernel
theorem dX11_readPlanes_493 : decode cX11_readPlanes 493 = .ok (.idiv, 1) := by decide +kernel
theorem dX11_readPlanes_494 : decode cX11_readPlanes 494 = .ok (.istore 9, 2) := by decide +kernel
theorem dX11_readPlanes_496 : decode cX11_readPlanes 496 = .ok (.iload 8, 2) := by decide +kernel
theorem dX11_readPlanes_498 : decode cX11_readPlanes 498 = .ok (.iconst 2, 1) := by decide +kernel
theorem dX11_readPlanes_499 : decode cX11_readPlanes 499 = .ok (.irem, 1) := by decide +kernel
theorem dX11_readPlanes_500 : decode cX11_readPlanes 500 = .ok (.iconst 1, 1) := by decide +kernel
theorem dX11_readPlanes_501 : decode cX11_readPlanes 501 = .ok (.if_icmp .eq 10, 3) := by decide +kernel
theorem dX11_readPlanes_504 : decode cX11_readPlanes 504 = .ok (.iload 8, 2) := by decide +kernel
theorem dX11_readPlanes_506 : decode cX11_readPlanes 506 = .ok (.iload 9, 2) := by decide +kernel
theorem dX11_readPlanes_508 : decode cX11_readPlanes 508 = .ok (.if_icmp .ge 11, 3) := by decide +kernel
theorem dX11_readPlanes_511 : decode cX11_readPlanes 511 = .ok (.aload_n 0, 1) := by decide +kernel
theorem dX11_readPlanes_512 : decode cX11_readPlanes 512 = .ok (.iconst 2, 1) := by decide +kernel
theorem dX11_readPlanes_513 : decode cX11_readPlanes 513 = .ok (.bipush 66, 2) := by decide +kernel
theorem dX11_readPlanes_515 : decode cX11_readPlanes 515 = .ok (.invokevirtual 90, 3) := by decide +kernel
theorem dX11_readPlanes_518 : decode cX11_readPlanes 518 = .ok (.ireturn, 1) := by decide +kernel
theorem dX11_readPlanes_519 : decode cX11_readPlanes 519 = .ok (.aload_n 0, 1) := by decide +kernel
theorem dX11_readPlanes_520 : decode cX11_readPlanes 520 = .ok (.bipush 68, 2) := by decide +kernel
theorem dX11_readPlanes_522 : decode cX11_readPlanes 522 = .ok (.putfield 84, 3) := by decide +kernel
theorem dX11_readPlanes_525 : decode cX11_readPlanes 525 = .ok (.aload_n 0, 1) := by decide +kernel
theorem dX11_readPlanes_526 : decode cX11_readPlanes 526 = .ok (.bipush 60, 2) := by decide +kernel
theorem dX11_readPlanes_528 : decode cX11_readPlanes 528 = .ok (.invokevirtual 103, 3) := by decide +kernel
theorem dX11_readPlanes_531 : decode cX11_readPlanes 531 = .ok (.ifCond .ne 5, 3) := by decide +kernel
theorem dX11_readPlanes_534 : decode cX11_readPlanes 534 = .ok (.iconst 0, 1) := by decide +kernel
theorem dX11_readPlanes_535 : decode cX11_readPlanes 535 = .ok (.ireturn, 1) := by decide +kernel
theorem dX11_readPlanes_536 : decode cX11_readPlanes 536 = .ok (.aload_n 0, 1) := by decide +kernel
theorem dX11_readPlanes_537 : decode cX11_readPlanes 537 = .ok (.sipush 128, 3) := by decide +kernel
theorem dX11_readPlanes_540 : decode cX11_readPlanes 540 = .ok (.putfield 84, 3) := by decide +kernel
theorem dX11_readPlanes_543 : decode cX11_readPlanes 543 = .ok (.iconst 0, 1) := by decide +kernel
theorem dX11_readPlanes_544 : decode cX11_readPlanes 544 = .ok (.istore 10, 2) := by decide +kernel
theorem dX11_readPlanes_546 : decode cX11_readPlanes 546 = .ok (.iload 10, 2) := by decide +kernel
theorem dX11_readPlanes_548 : decode cX11_readPlanes 548 = .ok (.aload_n 0, 1) := by decide +kernel
theorem dX11_readPlanes_549 : decode cX11_readPlanes 549 = .ok (.getfield 112, 3) := by decide +kernel
theorem dX11_readPlanes_552 : decode cX11_readPlanes 552 = .ok (.if_icmp .ge 27, 3) := by decide +kernel
theorem dX11_readPlanes_555 : decode cX11_readPlanes 555 = .ok (.aload_n 0, 1) := by decide +kernel
theorem dX11_readPlanes_556 : decode cX11_readPlanes 556 = .ok (.iload 10, 2) := by decide +kernel
theorem dX11_readPlanes_558 : decode cX11_readPlanes 558 = .ok (.iload_n 2, 1) := by decide +kernel
theorem dX11_readPlanes_559 : decode cX11_readPlanes 559 = .ok (.iload 7, 2) := by decide +kernel
theorem dX11_readPlanes_561 : decode cX11_readPlanes 561 = .ok (.iload 8, 2) := by decide +kernel
theorem dX11_readPlanes_563 : decode cX11_readPlanes 563 = .ok (.iload 9, 2) := by decide +kernel
theorem dX11_readPlanes_565 : decode cX11_readPlanes 565 = .ok (.invokevirtual 226, 3) := by decide +kernel
theorem dX11_readPlanes_568 : decode cX11_readPlanes 568 = .ok (.ifCond .ne 5, 3) := by decide +kernel
theorem dX11_readPlanes_571 : decode cX11_readPlanes 571 = .ok (.iconst 0, 1) := by decide +kernel
theorem dX11_readPlanes_572 : decode cX11_readPlanes 572 = .ok (.ireturn, 1) := by decide +kernel
theorem dX11_readPlanes_573 : decode cX11_readPlanes 573 = .ok (.iinc 10 1, 3) := by decide +kernel
theorem dX11_readPlanes_576 : decode cX11_readPlanes 576 = .ok (.goto (-30), 3) := by decide +kernel
theorem dX11_readPlanes_579 : decode cX11_readPlanes 579 = .ok (.iload_n 2, 1) := by decide +kernel
theorem dX11_readPlanes_580 : decode cX11_readPlanes 580 = .ok (.bipush 8, 2) := by decide +kernel
theorem dX11_readPlanes_582 : decode cX11_readPlanes 582 = .ok (.if_icmp .ne 116, 3) := by decide +kernel
theorem dX11_readPlanes_585 : decode cX11_readPlanes 585 = .ok (.iload 7, 2) := by decide +kernel
theorem dX11_readPlanes_587 : decode cX11_readPlanes 587 = .ok (.iconst 1, 1) := by decide +kernel
theorem dX11_readPlanes_588 : decode cX11_readPlanes 588 = .ok (.if_icmp .ne 110, 3) := by decide +kernel
theorem dX11_readPlanes_591 : decode cX11_readPlanes 591 = .ok (.aload_n 0, 1) := by decide +kernel
theorem dX11_readPlanes_592 : decode cX11_readPlanes 592 = .ok (.bipush 12, 2) := by decide +kernel
theorem dX11_readPlanes_594 : decode cX11_readPlanes 594 = .ok (.invokevirtual 119, 3) := by decide +kernel
theorem dX11_readPlanes_597 : decode cX11_readPlanes 597 = .ok (.ifCond .eq 13, 3) := by decide +kernel
theorem dX11_readPlanes_600 : decode cX11_readPlanes 600 = .ok (.aload_n 0, 1) := by decide +kernel
theorem dX11_readPlanes_601 : decode cX11_readPlanes 601 = .ok (.sipush 768, 3) := by decide +kernel
theorem dX11_readPlanes_604 : decode cX11_readPlanes 604 = .ok (.invokevirtual 103, 3) := by decide +kernel
theorem dX11_readPlanes_607 : decode cX11_readPlanes 607 = .ok (.ifCond .ne 5, 3) := by decide +kernel
theorem dX11_readPlanes_610 : decode cX11_readPlanes 610 = .ok (.iconst 0, 1) := by decide +kernel
theorem dX11_readPlanes_611 : decode cX11_readPlanes 611 = .ok (.ireturn, 1) := by decide +kernel
theorem dX11_readPlanes_612 : decode cX11_readPlanes 612 = .ok (.iconst 0, 1) := by decide +kernel
