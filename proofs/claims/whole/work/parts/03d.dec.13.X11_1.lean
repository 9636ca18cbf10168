theorem dX11_readChunks_652 : decode cX11_readChunks 652 = .ok (.if_icmp .ge 21, 3) := by decide +kernel
theorem dX11_readChunks_655 : decode cX11_readChunks 655 = .ok (.aload_n 0, 1) := by decide +kernel
theorem dX11_readChunks_656 : decode cX11_readChunks 656 = .ok (.getfield 27, 3) := by decide +kernel
theorem dX11_readChunks_659 : decode cX11_readChunks 659 = .ok (.iload 8, 2) := by decide +kernel
theorem dX11_readChunks_661 : decode cX11_readChunks 661 = .ok (.iload 6, 2) := by decide +kernel
theorem dX11_readChunks_663 : decode cX11_readChunks 663 = .ok (.iastore, 1) := by decide +kernel
theorem dX11_readChunks_664 : decode cX11_readChunks 664 = .ok (.iinc 8 1, 3) := by decide +kernel
theorem dX11_readChunks_667 : decode cX11_readChunks 667 = .ok (.iinc 12 1, 3) := by decide +kernel
theorem dX11_readChunks_670 : decode cX11_readChunks 670 = .ok (.goto (-22), 3) := by decide +kernel
theorem dX11_readChunks_673 : decode cX11_readChunks 673 = .ok (.aload_n 0, 1) := by decide +kernel
theorem dX11_readChunks_674 : decode cX11_readChunks 674 = .ok (.getfield 46, 3) := by decide +kernel
theorem dX11_readChunks_677 : decode cX11_readChunks 677 = .ok (.iload 6, 2) := by decide +kernel
theorem dX11_readChunks_679 : decode cX11_readChunks 679 = .ok (.invokestatic 142, 3) := by decide +kernel
theorem dX11_readChunks_682 : decode cX11_readChunks 682 = .ok (.iload 6, 2) := by decide +kernel
theorem dX11_readChunks_684 : decode cX11_readChunks 684 = .ok (.iastore, 1) := by decide +kernel
theorem dX11_readChunks_685 : decode cX11_readChunks 685 = .ok (.goto (-381), 3) := by decide +kernel
theorem dX11_readChunks_688 : decode cX11_readChunks 688 = .ok (.iconst 0, 1) := by decide +kernel
theorem dX11_readChunks_689 : decode cX11_readChunks 689 = .ok (.istore 9, 2) := by decide +kernel
theorem dX11_readChunks_691 : decode cX11_readChunks 691 = .ok (.iload 9, 2) := by decide +kernel
theorem dX11_readChunks_693 : decode cX11_readChunks 693 = .ok (.bipush 8, 2) := by decide +kernel
theorem dX11_readChunks_695 : decode cX11_readChunks 695 = .ok (.if_icmp .ge 30, 3) := by decide +kernel
theorem dX11_readChunks_698 : decode cX11_readChunks 698 = .ok (.aload_n 0, 1) := by decide +kernel
theorem dX11_readChunks_699 : decode cX11_readChunks 699 = .ok (.iload 9, 2) := by decide +kernel
theorem dX11_readChunks_701 : decode cX11_readChunks 701 = .ok (.bipush 7, 2) := by decide +kernel
theorem dX11_readChunks_703 : decode cX11_readChunks 703 = .ok (.if_icmp .ne 7, 3) := by decide +kernel
theorem dX11_readChunks_706 : decode cX11_readChunks 706 = .ok (.iconst 1, 1) := by decide +kernel
theorem dX11_readChunks_707 : decode cX11_readChunks 707 = .ok (.goto 4, 3) := by decide +kernel
theorem dX11_readChunks_710 : decode cX11_readChunks 710 = .ok (.iconst 0, 1) := by decide +kernel
theorem dX11_readChunks_711 : decode cX11_readChunks 711 = .ok (.invokevirtual 119, 3) := by decide +kernel
theorem dX11_readChunks_714 : decode cX11_readChunks 714 = .ok (.ifCond .ne 5, 3) := by decide +kernel
theorem dX11_readChunks_717 : decode cX11_readChunks 717 = .ok (.iconst 0, 1) := by decide +kernel
theorem dX11_readChunks_718 : decode cX11_readChunks 718 = .ok (.ireturn, 1) := by decide +kernel
theorem dX11_readChunks_719 : decode cX11_readChunks 719 = .ok (.iinc 9 1, 3) := by decide +kernel
theorem dX11_readChunks_722 : decode cX11_readChunks 722 = .ok (.goto (-31), 3) := by decide +kernel
theorem dX11_readChunks_725 : decode cX11_readChunks 725 = .ok (.aload_n 0, 1) := by decide +kernel
theorem dX11_readChunks_726 : decode cX11_readChunks 726 = .ok (.invokevirtual 145, 3) := by decide +kernel
theorem dX11_readChunks_729 : decode cX11_readChunks 729 = .ok (.ireturn, 1) := by decide +kernel
theorem dX11_more_0 : decode cX11_more 0 = .ok (.iload_n 0, 1) := by decide +kernel
theorem dX11_more_1 : decode cX11_more 1 = .ok (.bipush 24, 2) := by decide +kernel
theorem dX11_more_3 : decode cX11_more 3 = .ok (.iushr, 1) := by decide +kernel
theorem dX11_more_4 : decode cX11_more 4 = .ok (.iload_n 1, 1) := by decide +kernel
theorem dX11_more_5 : decode cX11_more 5 = .ok (.iadd, 1) := by decide +kernel
theorem dX11_more_6 : decode cX11_more 6 = .ok (.sipush 255, 3) := by decide +kernel
theorem dX11_more_9 : decode cX11_more 9 = .ok (.iand, 1) := by decide +kernel
theorem dX11_more_10 : decode cX11_more 10 = .ok (.iload_n 0, 1) := by decide +kernel
theorem dX11_more_11 : decode cX11_more 11 = .ok (.bipush 16, 2) := by decide +kernel
theorem dX11_more_13 : decode cX11_more 13 = .ok (.ishr, 1) := by decide +kernel
theorem dX11_more_14 : decode cX11_more 14 = .ok (.sipush 255, 3) := by decide +kernel
theorem dX11_more_17 : decode cX11_more 17 = .ok (.iand, 1) := by decide +kernel
theorem dX11_more_18 : decode cX11_more 18 = .ok (.iload_n 2, 1) := by decide +kernel
theorem dX11_more_19 : decode cX11_more 19 = .ok (.iadd, 1) := by decide +kernel
theorem dX11_more_20 : decode cX11_more 20 = .ok (.sipush 255, 3) := by decide +kernel
theorem dX11_more_23 : decode cX11_more 23 = .ok (.iand, 1) := by decide +kernel
theorem dX11_more_24 : decode cX11_more 24 = .ok (.iload_n 0, 1) := by decide +kernel
theorem dX11_more_25 : decode cX11_more 25 = .ok (.bipush 8, 2) := by decide +kernel
theorem dX11_more_27 : decode cX11_more 27 = .ok (.ishr, 1) := by decide +kernel
theorem dX11_more_28 : decode cX11_more 28 = .ok (.sipush 255, 3) := by decide +kernel
theorem dX11_more_31 : decode cX11_more 31 = .ok (.iand, 1) := by decide +kernel
theorem dX11_more_32 : decode cX11_more 32 = .ok (.iload_n 3, 1) := by decide +kernel
theorem dX11_more_33 : decode cX11_more 33 = .ok (.iadd, 1) := by decide +kernel
theorem dX11_more_34 : decode cX11_more 34 = .ok (.sipush 255, 3) := by decide +kernel
theorem dX11_more_37 : decode cX11_more 37 = .ok (.iand, 1) := by decide +kernel
theorem dX11_more_38 : decode cX11_more 38 = .ok (.iload_n 0, 1) := by decide +kernel
theorem dX11_more_39 : decode cX11_more 39 = .ok (.sipush 255, 3) := by decide +kernel
theorem dX11_more_42 : decode cX11_more 42 = .ok (.iand, 1) := by decide +kernel
theorem dX11_more_43 : decode cX11_more 43 = .ok (.invokestatic 115, 3) := by decide +kernel
theorem dX11_more_46 : decode cX11_more 46 = .ok (.ireturn, 1) := by decide +kernel
theorem dX11_spot_0 : decode cX11_spot 0 = .ok (.iconst 3, 1) := by decide +kernel
theorem dX11_spot_1 : decode cX11_spot 1 = .ok (.iload_n 0, 1) := by decide +kernel
theorem dX11_spot_2 : decode cX11_spot 2 = .ok (.bipush 24, 2) := by decide +kernel
theorem dX11_spot_4 : decode cX11_spot 4 = .ok (.iushr, 1) := by decide +kernel
theorem dX11_spot_5 : decode cX11_spot 5 = .ok (.imul, 1) := by decide +kernel
theorem dX11_spot_6 : decode cX11_spot 6 = .ok (.iconst 5, 1) := by decide +kernel
theorem dX11_spot_7 : decode cX11_spot 7 = .ok (.iload_n 0, 1) := by decide +kernel
theorem dX11_spot_8 : decode cX11_spot 8 = .ok (.bipush 16, 2) := by decide +kernel
theorem dX11_spot_10 : decode cX11_spot 10 = .ok (.ishr, 1) := by decide +kernel
theorem dX11_spot_11 : decode cX11_spot 11 = .ok (.sipush 255, 3) := by decide +kernel
theorem dX11_spot_14 : decode cX11_spot 14 = .ok (.iand, 1) := by decide +kernel
theorem dX11_spot_15 : decode cX11_spot 15 = .ok (.imul, 1) := by decide +kernel
theorem dX11_spot_16 : decode cX11_spot 16 = .ok (.iadd, 1) := by decide +kernel
theorem dX11_spot_17 : decode cX11_spot 17 = .ok (.bipush 7, 2) := by decide +kernel
theorem dX11_spot_19 : decode cX11_spot 19 = .ok (.iload_n 0, 1) := by decide +kernel
theorem dX11_spot_20 : decode cX11_spot 20 = .ok (.bipush 8, 2) := by decide +kernel
theorem dX11_spot_22 : decode cX11_spot 22 = .ok (.ishr, 1) := by decide +kernel
theorem dX11_spot_23 : decode cX11_spot 23 = .ok (.sipush 255, 3) := by decide +kernel
theorem dX11_spot_26 : decode cX11_spot 26 = .ok (.iand, 1) := by decide +kernel
theorem dX11_spot_27 : decode cX11_spot 27 = .ok (.imul, 1) := by decide +kernel
theorem dX11_spot_28 : decode cX11_spot 28 = .ok (.iadd, 1) := by decide +kernel
theorem dX11_spot_29 : decode cX11_spot 29 = .ok (.bipush 11, 2) := by decide +kernel
theorem dX11_spot_31 : decode cX11_spot 31 = .ok (.iload_n 0, 1) := by decide +kernel
theorem dX11_spot_32 : decode cX11_spot 32 = .ok (.sipush 255, 3) := by decide +kernel
theorem dX11_spot_35 : decode cX11_spot 35 = .ok (.iand, 1) := by decide +kernel
theorem dX11_spot_36 : decode cX11_spot 36 = .ok (.imul, 1) := by decide +kernel
theorem dX11_spot_37 : decode cX11_spot 37 = .ok (.iadd, 1) := by decide +kernel
theorem dX11_spot_38 : decode cX11_spot 38 = .ok (.bipush 64, 2) := by decide +kernel
theorem dX11_spot_40 : decode cX11_spot 40 = .ok (.irem, 1) := by decide +kernel
theorem dX11_spot_41 : decode cX11_spot 41 = .ok (.ireturn, 1) := by decide +kernel
theorem dX11_isBlank_0 : decode cX11_isBlank 0 = .ok (.iload_n 1, 1) := by decide +kernel
theorem dX11_isBlank_1 : decode cX11_isBlank 1 = .ok (.bipush 9, 2) := by decide +kernel
theorem dX11_isBlank_3 : decode cX11_isBlank 3 = .ok (.if_icmp .lt 9, 3) := by decide +kernel
theorem dX11_isBlank_6 : decode cX11_isBlank 6 = .ok (.iload_n 1, 1) := by decide +kernel
theorem dX11_isBlank_7 : decode cX11_isBlank 7 = .ok (.bipush 13, 2) := by decide +kernel
theorem dX11_isBlank_9 : decode cX11_isBlank 9 = .ok (.if_icmp .le 9, 3) := by decide +kernel
theorem dX11_isBlank_12 : decode cX11_isBlank 12 = .ok (.iload_n 1, 1) := by decide +kernel
theorem dX11_isBlank_13 : decode cX11_isBlank 13 = .ok (.bipush 32, 2) := by decide +kernel
theorem dX11_isBlank_15 : decode cX11_isBlank 15 = .ok (.if_icmp .ne 7, 3) := by decide +kernel
theorem dX11_isBlank_18 : decode cX11_isBlank 18 = .ok (.iconst 1, 1) := by decide +kernel
theorem dX11_isBlank_19 : decode cX11_isBlank 19 = .ok (.goto 4, 3) := by decide +kernel
theorem dX11_isBlank_22 : decode cX11_isBlank 22 = .ok (.iconst 0, 1) := by decide +kernel
theorem dX11_isBlank_23 : decode cX11_isBlank 23 = .ok (.ireturn, 1) := by decide +kernel
theorem dX11_skip_0 : decode cX11_skip 0 = .ok (.iconst 1, 1) := by decide +kernel
theorem dX11_skip_1 : decode cX11_skip 1 = .ok (.istore_n 1, 1) := by decide +kernel
theorem dX11_skip_2 : decode cX11_skip 2 = .ok (.iload_n 1, 1) := by decide +kernel
theorem dX11_skip_3 : decode cX11_skip 3 = .ok (.ifCond .eq 121, 3) := by decide +kernel
theorem dX11_skip_6 : decode cX11_skip 6 = .ok (.aload_n 0, 1) := by decide +kernel
theorem dX11_skip_7 : decode cX11_skip 7 = .ok (.getfield 84, 3) := by decide +kernel
theorem dX11_skip_10 : decode cX11_skip 10 = .ok (.aload_n 0, 1) := by decide +kernel
theorem dX11_skip_11 : decode cX11_skip 11 = .ok (.getfield 87, 3) := by decide +kernel
theorem dX11_skip_14 : decode cX11_skip 14 = .ok (.if_icmp .ge 110, 3) := by decide +kernel
theorem dX11_skip_17 : decode cX11_skip 17 = .ok (.aload_n 0, 1) := by decide +kernel
theorem dX11_skip_18 : decode cX11_skip 18 = .ok (.aload_n 0, 1) := by decide +kernel
theorem dX11_skip_19 : decode cX11_skip 19 = .ok (.aload_n 0, 1) := by decide +kernel
theorem dX11_skip_20 : decode cX11_skip 20 = .ok (.getfield 84, 3) := by decide +kernel
theorem dX11_skip_23 : decode cX11_skip 23 = .ok (.invokevirtual 99, 3) := by decide +kernel
theorem dX11_skip_26 : decode cX11_skip 26 = .ok (.invokevirtual 149, 3) := by decide +kernel
theorem dX11_skip_29 : decode cX11_skip 29 = .ok (.ifCond .eq 16, 3) := by decide +kernel
theorem dX11_skip_32 : decode cX11_skip 32 = .ok (.aload_n 0, 1) := by decide +kernel
theorem dX11_skip_33 : decode cX11_skip 33 = .ok (.dup, 1) := by decide +kernel
theorem dX11_skip_34 : decode cX11_skip 34 = .ok (.getfield 84, 3) := by decide +kernel
theorem dX11_skip_37 : decode cX11_skip 37 = .ok (.iconst 1, 1) := by decide +kernel
theorem dX11_skip_38 : decode cX11_skip 38 = .ok (.iadd, 1) := by decide +kernel
theorem dX11_skip_39 : decode cX11_skip 39 = .ok (.putfield 84, 3) := by decide +kernel
theorem dX11_skip_42 : decode cX11_skip 42 = .ok (.goto (-40), 3) := by decide +kernel
theorem dX11_skip_45 : decode cX11_skip 45 = .ok (.aload_n 0, 1) := by decide +kernel
theorem dX11_skip_46 : decode cX11_skip 46 = .ok (.aload_n 0, 1) := by decide +kernel
theorem dX11_skip_47 : decode cX11_skip 47 = .ok (.getfield 84, 3) := by decide +kernel
theorem dX11_skip_50 : decode cX11_skip 50 = .ok (.invokevirtual 99, 3) := by decide +kernel
theorem dX11_skip_53 : decode cX11_skip 53 = .ok (.bipush 35, 2) := by decide +kernel
theorem dX11_skip_55 : decode cX11_skip 55 = .ok (.if_icmp .ne 64, 3) := by decide +kernel
theorem dX11_skip_58 : decode cX11_skip 58 = .ok (.aload_n 0, 1) := by decide +kernel
theorem dX11_skip_59 : decode cX11_skip 59 = .ok (.getfield 84, 3) := by decide +kernel
theorem dX11_skip_62 : decode cX11_skip 62 = .ok (.aload_n 0, 1) := by decide +kernel
theorem dX11_skip_63 : decode cX11_skip 63 = .ok (.getfield 87, 3) := by decide +kernel
theorem dX11_skip_66 : decode cX11_skip 66 = .ok (.if_icmp .ge 29, 3) := by decide +kernel
theorem dX11_skip_69 : decode cX11_skip 69 = .ok (.aload_n 0, 1) := by decide +kernel
theorem dX11_skip_70 : decode cX11_skip 70 = .ok (.aload_n 0, 1) := by decide +kernel
theorem dX11_skip_71 : decode cX11_skip 71 = .ok (.getfield 84, 3) := by decide +kernel
theorem dX11_skip_74 : decode cX11_skip 74 = .ok (.invokevirtual 99, 3) := by decide +kernel
theorem dX11_skip_77 : decode cX11_skip 77 = .ok (.bipush 10, 2) := by decide +kernel
theorem dX11_skip_79 : decode cX11_skip 79 = .ok (.if_icmp .eq 16, 3) := by decide +kernel
theorem dX11_skip_82 : decode cX11_skip 82 = .ok (.aload_n 0, 1) := by decide +kernel
theorem dX11_skip_83 : decode cX11_skip 83 = .ok (.dup, 1) := by decide +kernel
theorem dX11_skip_84 : decode cX11_skip 84 = .ok (.getfield 84, 3) := by decide +kernel
theorem dX11_skip_87 : decode cX11_skip 87 = .ok (.iconst 1, 1) := by decide +kernel
theorem dX11_skip_88 : decode cX11_skip 88 = .ok (.iadd, 1) := by decide +kernel
theorem dX11_skip_89 : decode cX11_skip 89 = .ok (.putfield 84, 3) := by decide +kernel
theorem dX11_skip_92 : decode cX11_skip 92 = .ok (.goto (-34), 3) := by decide +kernel
theorem dX11_skip_95 : decode cX11_skip 95 = .ok (.aload_n 0, 1) := by decide +kernel
theorem dX11_skip_96 : decode cX11_skip 96 = .ok (.getfield 84, 3) := by decide +kernel
theorem dX11_skip_99 : decode cX11_skip 99 = .ok (.aload_n 0, 1) := by decide +kernel
theorem dX11_skip_100 : decode cX11_skip 100 = .ok (.getfield 87, 3) := by decide +kernel
theorem dX11_skip_103 : decode cX11_skip 103 = .ok (.if_icmp .ge (-101), 3) := by decide +kernel
theorem dX11_skip_106 : decode cX11_skip 106 = .ok (.aload_n 0, 1) := by decide +kernel
theorem dX11_skip_107 : decode cX11_skip 107 = .ok (.dup, 1) := by decide +kernel
theorem dX11_skip_108 : decode cX11_skip 108 = .ok (.getfield 84, 3) := by decide +kernel
theorem dX11_skip_111 : decode cX11_skip 111 = .ok (.iconst 1, 1) := by decide +kernel
theorem dX11_skip_112 : decode cX11_skip 112 = .ok (.iadd, 1) := by decide +kernel
theorem dX11_skip_113 : decode cX11_skip 113 = .ok (.putfield 84, 3) := by decide +kernel
theorem dX11_skip_116 : decode cX11_skip 116 = .ok (.goto (-114), 3) := by decide +kernel
theorem dX11_skip_119 : decode cX11_skip 119 = .ok (.iconst 0, 1) := by decide +kernel
theorem dX11_skip_120 : decode cX11_skip 120 = .ok (.istore_n 1, 1) := by decide +kernel
theorem dX11_skip_121 : decode cX11_skip 121 = .ok (.goto (-119), 3) := by decide +kernel
theorem dX11_skip_124 : decode cX11_skip 124 = .ok (.return_, 1) := by decide +kernel
theorem dX11_gap_0 : decode cX11_gap 0 = .ok (.aload_n 0, 1) := by decide +kernel
theorem dX11_gap_1 : decode cX11_gap 1 = .ok (.getfield 84, 3) := by decide +kernel
theorem dX11_gap_4 : decode cX11_gap 4 = .ok (.istore_n 1, 1) := by decide +kernel
theorem dX11_gap_5 : decode cX11_gap 5 = .ok (.aload_n 0, 1) := by decide +kernel
theorem dX11_gap_6 : decode cX11_gap 6 = .ok (.invokevirtual 152, 3) := by decide +kernel
theorem dX11_gap_9 : decode cX11_gap 9 = .ok (.aload_n 0, 1) := by decide +kernel
theorem dX11_gap_10 : decode cX11_gap 10 = .ok (.getfield 84, 3) := by decide +kernel
theorem dX11_gap_13 : decode cX11_gap 13 = .ok (.iload_n 1, 1) := by decide +kernel
theorem dX11_gap_14 : decode cX11_gap 14 = .ok (.if_icmp .le 5, 3) := by decide +kernel
theorem dX11_gap_17 : decode cX11_gap 17 = .ok (.iconst 1, 1) := by decide +kernel
theorem dX11_gap_18 : decode cX11_gap 18 = .ok (.ireturn, 1) := by decide +kernel
theorem dX11_gap_19 : decode cX11_gap 19 = .ok (.aload_n 0, 1) := by decide +kernel
theorem dX11_gap_20 : decode cX11_gap 20 = .ok (.getfield 84, 3) := by decide +kernel
theorem dX11_gap_23 : decode cX11_gap 23 = .ok (.aload_n 0, 1) := by decide +kernel
theorem dX11_gap_24 : decode cX11_gap 24 = .ok (.getfield 87, 3) := by decide +kernel
theorem dX11_gap_27 : decode cX11_gap 27 = .ok (.if_icmp .ne 15, 3) := by decide +kernel
theorem dX11_gap_30 : decode cX11_gap 30 = .ok (.aload_n 0, 1) := by decide +kernel
theorem dX11_gap_31 : decode cX11_gap 31 = .ok (.iconst 1, 1) := by decide +kernel
theorem dX11_gap_32 : decode cX11_gap 32 = .ok (.aload_n 0, 1) := by decide +kernel
theorem dX11_gap_33 : decode cX11_gap 33 = .ok (.getfield 87, 3) := by decide +kernel
theorem dX11_gap_36 : decode cX11_gap 36 = .ok (.invokevirtual 90, 3) := by decide +kernel
theorem dX11_gap_39 : decode cX11_gap 39 = .ok (.goto 12, 3) := by decide +kernel
theorem dX11_gap_42 : decode cX11_gap 42 = .ok (.aload_n 0, 1) := by decide +kernel
theorem dX11_gap_43 : decode cX11_gap 43 = .ok (.iconst 2, 1) := by decide +kernel
theorem dX11_gap_44 : decode cX11_gap 44 = .ok (.aload_n 0, 1) := by decide +kernel
theorem dX11_gap_45 : decode cX11_gap 45 = .ok (.getfield 84, 3) := by decide +kernel
theorem dX11_gap_48 : decode cX11_gap 48 = .ok (.invokevirtual 90, 3) := by decide +kernel
theorem dX11_gap_51 : decode cX11_gap 51 = .ok (.ireturn, 1) := by decide +kernel
theorem dX11_number_0 : decode cX11_number 0 = .ok (.aload_n 0, 1) := by decide +kernel
theorem dX11_number_1 : decode cX11_number 1 = .ok (.getfield 84, 3) := by decide +kernel
theorem dX11_number_4 : decode cX11_number 4 = .ok (.aload_n 0, 1) := by decide +kernel
theorem dX11_number_5 : decode cX11_number 5 = .ok (.getfield 87, 3) := by decide +kernel
theorem dX11_number_8 : decode cX11_number 8 = .ok (.if_icmp .ne 15, 3) := by decide +kernel
theorem dX11_number_11 : decode cX11_number 11 = .ok (.aload_n 0, 1) := by decide +kernel
theorem dX11_number_12 : decode cX11_number 12 = .ok (.iconst 1, 1) := by decide +kernel
theorem dX11_number_13 : decode cX11_number 13 = .ok (.aload_n 0, 1) := by decide +kernel
theorem dX11_number_14 : decode cX11_number 14 = .ok (.getfield 87, 3) := by decide +kernel
theorem dX11_number_17 : decode cX11_number 17 = .ok (.invokevirtual 90, 3) := by decide +kernel
theorem dX11_number_20 : decode cX11_number 20 = .ok (.pop, 1) := by decide +kernel
theorem dX11_number_21 : decode cX11_number 21 = .ok (.iconst (-1), 1) := by decide +kernel
theorem dX11_number_22 : decode cX11_number 22 = .ok (.ireturn, 1) := by decide +kernel
theorem dX11_number_23 : decode cX11_number 23 = .ok (.aload_n 0, 1) := by decide +kernel
theorem dX11_number_24 : decode cX11_number 24 = .ok (.aload_n 0, 1) := by decide +kernel
theorem dX11_number_25 : decode cX11_number 25 = .ok (.getfield 84, 3) := by decide +kernel
theorem dX11_number_28 : decode cX11_number 28 = .ok (.invokevirtual 99, 3) := by decide +kernel
theorem dX11_number_31 : decode cX11_number 31 = .ok (.bipush 48, 2) := by decide +kernel
theorem dX11_number_33 : decode cX11_number 33 = .ok (.if_icmp .lt 16, 3) := by decide +kernel
theorem dX11_number_36 : decode cX11_number 36 = .ok (.aload_n 0, 1) := by decide +kernel
theorem dX11_number_37 : decode cX11_number 37 = .ok (.aload_n 0, 1) := by decide +kernel
theorem dX11_number_38 : decode cX11_number 38 = .ok (.getfield 84, 3) := by decide +kernel
theorem dX11_number_41 : decode cX11_number 41 = .ok (.invokevirtual 99, 3) := by decide +kernel
theorem dX11_number_44 : decode cX11_number 44 = .ok (.bipush 57, 2) := by decide +kernel
theorem dX11_number_46 : decode cX11_number 46 = .ok (.if_icmp .le 15, 3) := by decide +kernel
theorem dX11_number_49 : decode cX11_number 49 = .ok (.aload_n 0, 1) := by decide +kernel
theorem dX11_number_50 : decode cX11_number 50 = .ok (.iconst 2, 1) := by decide +kernel
theorem dX11_number_51 : decode cX11_number 51 = .ok (.aload_n 0, 1) := by decide +kernel
theorem dX11_number_52 : decode cX11_number 52 = .ok (.getfield 84, 3) := by decide +kernel
theorem dX11_number_55 : decode cX11_number 55 = .ok (.invokevirtual 90, 3) := by decide +kernel
theorem dX11_number_58 : decode cX11_number 58 = .ok (.pop, 1) := by decide +kernel
theorem dX11_number_59 : decode cX11_number 59 = .ok (.iconst (-1), 1) := by decide +kernel
theorem dX11_number_60 : decode cX11_number 60 = .ok (.ireturn, 1) := by decide +kernel
theorem dX11_number_61 : decode cX11_number 61 = .ok (.iconst 0, 1) := by decide +kernel
theorem dX11_number_62 : decode cX11_number 62 = .ok (.istore_n 1, 1) := by decide +kernel
theorem dX11_number_63 : decode cX11_number 63 = .ok (.aload_n 0, 1) := by decide +kernel
theorem dX11_number_64 : decode cX11_number 64 = .ok (.getfield 84, 3) := by decide +kernel
theorem dX11_number_67 : decode cX11_number 67 = .ok (.aload_n 0, 1) := by decide +kernel
theorem dX11_number_68 : decode cX11_number 68 = .ok (.getfield 87, 3) := by decide +kernel
theorem dX11_number_71 : decode cX11_number 71 = .ok (.if_icmp .ge 68, 3) := by decide +kernel
theorem dX11_number_74 : decode cX11_number 74 = .ok (.aload_n 0, 1) := by decide +kernel
theorem dX11_number_75 : decode cX11_number 75 = .ok (.aload_n 0, 1) := by decide +kernel
theorem dX11_number_76 : decode cX11_number 76 = .ok (.getfield 84, 3) := by decide +kernel
theorem dX11_number_79 : decode cX11_number 79 = .ok (.invokevirtual 99, 3) := by decide +kernel
theorem dX11_number_82 : decode cX11_number 82 = .ok (.bipush 48, 2) := by decide +kernel
theorem dX11_number_84 : decode cX11_number 84 = .ok (.if_icmp .lt 55, 3) := by decide +kernel
theorem dX11_number_87 : decode cX11_number 87 = .ok (.aload_n 0, 1) := by decide +kernel
theorem dX11_number_88 : decode cX11_number 88 = .ok (.aload_n 0, 1) := by decide +kernel
theorem dX11_number_89 : decode cX11_number 89 = .ok (.getfield 84, 3) := by decide +kernel
theorem dX11_number_92 : decode cX11_number 92 = .ok (.invokevirtual 99, 3) := by decide +kernel
theorem dX11_number_95 : decode cX11_number 95 = .ok (.bipush 57, 2) := by decide +kernel
theorem dX11_number_97 : decode cX11_number 97 = .ok (.if_icmp .gt 42, 3) := by decide +kernel
theorem dX11_number_100 : decode cX11_number 100 = .ok (.bipush 10, 2) := by decide +kernel
theorem dX11_number_102 : decode cX11_number 102 = .ok (.iload_n 1, 1) := by decide +kernel
theorem dX11_number_103 : decode cX11_number 103 = .ok (.imul, 1) := by decide +kernel
theorem dX11_number_104 : decode cX11_number 104 = .ok (.aload_n 0, 1) := by decide +kernel
theorem dX11_number_105 : decode cX11_number 105 = .ok (.aload_n 0, 1) := by decide +kernel
theorem dX11_number_106 : decode cX11_number 106 = .ok (.getfield 84, 3) := by decide +kernel
theorem dX11_number_109 : decode cX11_number 109 = .ok (.invokevirtual 99, 3) := by decide +kernel
theorem dX11_number_112 : decode cX11_number 112 = .ok (.iadd, 1) := by decide +kernel
theorem dX11_number_113 : decode cX11_number 113 = .ok (.bipush 48, 2) := by decide +kernel
theorem dX11_number_115 : decode cX11_number 115 = .ok (.isub, 1) := by decide +kernel
theorem dX11_number_116 : decode cX11_number 116 = .ok (.istore_n 1, 1) := by decide +kernel
theorem dX11_number_117 : decode cX11_number 117 = .ok (.iload_n 1, 1) := by decide +kernel
theorem dX11_number_118 : decode cX11_number 118 = .ok (.ldc 155, 2) := by decide +kernel
theorem dX11_number_120 : decode cX11_number 120 = .ok (.if_icmp .le 6, 3) := by decide +kernel
theorem dX11_number_123 : decode cX11_number 123 = .ok (.ldc 155, 2) := by decide +kernel
theorem dX11_number_125 : decode cX11_number 125 = .ok (.istore_n 1, 1) := by decide +kernel
theorem dX11_number_126 : decode cX11_number 126 = .ok (.aload_n 0, 1) := by decide +kernel
theorem dX11_number_127 : decode cX11_number 127 = .ok (.dup, 1) := by decide +kernel
theorem dX11_number_128 : decode cX11_number 128 = .ok (.getfield 84, 3) := by decide +kernel
theorem dX11_number_131 : decode cX11_number 131 = .ok (.iconst 1, 1) := by decide +kernel
theorem dX11_number_132 : decode cX11_number 132 = .ok (.iadd, 1) := by decide +kernel
theorem dX11_number_133 : decode cX11_number 133 = .ok (.putfield 84, 3) := by decide +kernel
theorem dX11_number_136 : decode cX11_number 136 = .ok (.goto (-73), 3) := by decide +kernel
theorem dX11_number_139 : decode cX11_number 139 = .ok (.iload_n 1, 1) := by decide +kernel
theorem dX11_number_140 : decode cX11_number 140 = .ok (.ireturn, 1) := by decide +kernel
theorem dX11_scaled_0 : decode cX11_scaled 0 = .ok (.sipush 510, 3) := by decide +kernel
theorem dX11_scaled_3 : decode cX11_scaled 3 = .ok (.iload_n 0, 1) := by decide +kernel
theorem dX11_scaled_4 : decode cX11_scaled 4 = .ok (.imul, 1) := by decide +kernel
theorem dX11_scaled_5 : decode cX11_scaled 5 = .ok (.iload_n 1, 1) := by decide +kernel
theorem dX11_scaled_6 : decode cX11_scaled 6 = .ok (.iadd, 1) := by decide +kernel
theorem dX11_scaled_7 : decode cX11_scaled 7 = .ok (.iconst 2, 1) := by decide +kernel
theorem dX11_scaled_8 : decode cX11_scaled 8 = .ok (.iload_n 1, 1) := by decide +kernel
theorem dX11_scaled_9 : decode cX11_scaled 9 = .ok (.imul, 1) := by decide +kernel
theorem dX11_scaled_10 : decode cX11_scaled 10 = .ok (.idiv, 1) := by decide +kernel
theorem dX11_scaled_11 : decode cX11_scaled 11 = .ok (.ireturn, 1) := by decide +kernel
theorem dX11_readMaps_0 : decode cX11_readMaps 0 = .ok (.aload_n 0, 1) := by decide +kernel
theorem dX11_readMaps_1 : decode cX11_readMaps 1 = .ok (.bipush 80, 2) := by decide +kernel
theorem dX11_readMaps_3 : decode cX11_readMaps 3 = .ok (.invokevirtual 119, 3) := by decide +kernel
theorem dX11_readMaps_6 : decode cX11_readMaps 6 = .ok (.ifCond .eq 11, 3) := by decide +kernel
theorem dX11_readMaps_9 : decode cX11_readMaps 9 = .ok (.aload_n 0, 1) := by decide +kernel
theorem dX11_readMaps_10 : decode cX11_readMaps 10 = .ok (.iconst 1, 1) := by decide +kernel
theorem dX11_readMaps_11 : decode cX11_readMaps 11 = .ok (.invokevirtual 103, 3) := by decide +kernel
theorem dX11_readMaps_14 : decode cX11_readMaps 14 = .ok (.ifCond .ne 5, 3) := by decide +kernel
theorem dX11_readMaps_17 : decode cX11_readMaps 17 = .ok (.iconst 0, 1) := by decide +kernel
theorem dX11_readMaps_18 : decode cX11_readMaps 18 = .ok (.ireturn, 1) := by decide +kernel
theorem dX11_readMaps_19 : decode cX11_readMaps 19 = .ok (.aload_n 0, 1) := by decide +kernel
theorem dX11_readMaps_20 : decode cX11_readMaps 20 = .ok (.aload_n 0, 1) := by decide +kernel
theorem dX11_readMaps_21 : decode cX11_readMaps 21 = .ok (.aload_n 0, 1) := by decide +kernel
theorem dX11_readMaps_22 : decode cX11_readMaps 22 = .ok (.getfield 84, 3) := by decide +kernel
theorem dX11_readMaps_25 : decode cX11_readMaps 25 = .ok (.invokevirtual 99, 3) := by decide +kernel
theorem dX11_readMaps_28 : decode cX11_readMaps 28 = .ok (.bipush 48, 2) := by decide +kernel
theorem dX11_readMaps_30 : decode cX11_readMaps 30 = .ok (.isub, 1) := by decide +kernel
theorem dX11_readMaps_31 : decode cX11_readMaps 31 = .ok (.putfield 130, 3) := by decide +kernel
theorem dX11_readMaps_34 : decode cX11_readMaps 34 = .ok (.aload_n 0, 1) := by decide +kernel
theorem dX11_readMaps_35 : decode cX11_readMaps 35 = .ok (.getfield 130, 3) := by decide +kernel
theorem dX11_readMaps_38 : decode cX11_readMaps 38 = .ok (.iconst 1, 1) := by decide +kernel
theorem dX11_readMaps_39 : decode cX11_readMaps 39 = .ok (.if_icmp .lt 12, 3) := by decide +kernel
theorem dX11_readMaps_42 : decode cX11_readMaps 42 = .ok (.aload_n 0, 1) := by decide +kernel
theorem dX11_readMaps_43 : decode cX11_readMaps 43 = .ok (.getfield 130, 3) := by decide +kernel
theorem dX11_readMaps_46 : decode cX11_readMaps 46 = .ok (.bipush 6, 2) := by decide +kernel
theorem dX11_readMaps_48 : decode cX11_readMaps 48 = .ok (.if_icmp .le 13, 3) := by decide +kernel
theorem dX11_readMaps_51 : decode cX11_readMaps 51 = .ok (.aload_n 0, 1) := by decide +kernel
theorem dX11_readMaps_52 : decode cX11_readMaps 52 = .ok (.iconst 2, 1) := by decide +kernel
theorem dX11_readMaps_53 : decode cX11_readMaps 53 = .ok (.aload_n 0, 1) := by decide +kernel
theorem dX11_readMaps_54 : decode cX11_readMaps 54 = .ok (.getfield 84, 3) := by decide +kernel
theorem dX11_readMaps_57 : decode cX11_readMaps 57 = .ok (.invokevirtual 90, 3) := by decide +kernel
theorem dX11_readMaps_60 : decode cX11_readMaps 60 = .ok (.ireturn, 1) := by decide +kernel
theorem dX11_readMaps_61 : decode cX11_readMaps 61 = .ok (.aload_n 0, 1) := by decide +kernel
theorem dX11_readMaps_62 : decode cX11_readMaps 62 = .ok (.dup, 1) := by decide +kernel
theorem dX11_readMaps_63 : decode cX11_readMaps 63 = .ok (.getfield 84, 3) := by decide +kernel
theorem dX11_readMaps_66 : decode cX11_readMaps 66 = .ok (.iconst 1, 1) := by decide +kernel
theorem dX11_readMaps_67 : decode cX11_readMaps 67 = .ok (.iadd, 1) := by decide +kernel
theorem dX11_readMaps_68 : decode cX11_readMaps 68 = .ok (.putfield 84, 3) := by decide +kernel
theorem dX11_readMaps_71 : decode cX11_readMaps 71 = .ok (.aload_n 0, 1) := by decide +kernel
theorem dX11_readMaps_72 : decode cX11_readMaps 72 = .ok (.invokevirtual 156, 3) := by decide +kernel
theorem dX11_readMaps_75 : decode cX11_readMaps 75 = .ok (.ifCond .ne 5, 3) := by decide +kernel
theorem dX11_readMaps_78 : decode cX11_readMaps 78 = .ok (.iconst 0, 1) := by decide +kernel
theorem dX11_readMaps_79 : decode cX11_readMaps 79 = .ok (.ireturn, 1) := by decide +kernel
theorem dX11_readMaps_80 : decode cX11_readMaps 80 = .ok (.aload_n 0, 1) := by decide +kernel
theorem dX11_readMaps_81 : decode cX11_readMaps 81 = .ok (.getfield 84, 3) := by decide +kernel
theorem dX11_readMaps_84 : decode cX11_readMaps 84 = .ok (.istore_n 1, 1) := by decide +kernel
theorem dX11_readMaps_85 : decode cX11_readMaps 85 = .ok (.aload_n 0, 1) := by decide +kernel
theorem dX11_readMaps_86 : decode cX11_readMaps 86 = .ok (.invokevirtual 159, 3) := by decide +kernel
theorem dX11_readMaps_89 : decode cX11_readMaps 89 = .ok (.istore_n 2, 1) := by decide +kernel
theorem dX11_readMaps_90 : decode cX11_readMaps 90 = .ok (.iload_n 2, 1) := by decide +kernel
theorem dX11_readMaps_91 : decode cX11_readMaps 91 = .ok (.ifCond .ge 5, 3) := by decide +kernel
theorem dX11_readMaps_94 : decode cX11_readMaps 94 = .ok (.iconst 0, 1) := by decide +kernel
theorem dX11_readMaps_95 : decode cX11_readMaps 95 = .ok (.ireturn, 1) := by decide +kernel
theorem dX11_readMaps_96 : decode cX11_readMaps 96 = .ok (.iload_n 2, 1) := by decide +kernel
theorem dX11_readMaps_97 : decode cX11_readMaps 97 = .ok (.ifCond .ne 10, 3) := by decide +kernel
theorem dX11_readMaps_100 : decode cX11_readMaps 100 = .ok (.aload_n 0, 1) := by decide +kernel
theorem dX11_readMaps_101 : decode cX11_readMaps 101 = .ok (.iconst 2, 1) := by decide +kernel
theorem dX11_readMaps_102 : decode cX11_readMaps 102 = .ok (.iload_n 1, 1) := by decide +kernel
theorem dX11_readMaps_103 : decode cX11_readMaps 103 = .ok (.invokevirtual 90, 3) := by decide +kernel
theorem dX11_readMaps_106 : decode cX11_readMaps 106 = .ok (.ireturn, 1) := by decide +kernel
theorem dX11_readMaps_107 : decode cX11_readMaps 107 = .ok (.iload_n 2, 1) := by decide +kernel
theorem dX11_readMaps_108 : decode cX11_readMaps 108 = .ok (.sipush 4096, 3) := by decide +kernel
theorem dX11_readMaps_111 : decode cX11_readMaps 111 = .ok (.if_icmp .le 10, 3) := by decide +kernel
theorem dX11_readMaps_114 : decode cX11_readMaps 114 = .ok (.aload_n 0, 1) := by decide +kernel
theorem dX11_readMaps_115 : decode cX11_readMaps 115 = .ok (.iconst 3, 1) := by decide +kernel
theorem dX11_readMaps_116 : decode cX11_readMaps 116 = .ok (.iload_n 1, 1) := by decide +kernel
theorem dX11_readMaps_117 : decode cX11_readMaps 117 = .ok (.invokevirtual 90, 3) := by decide +kernel
theorem dX11_readMaps_120 : decode cX11_readMaps 120 = .ok (.ireturn, 1) := by decide +kernel
theorem dX11_readMaps_121 : decode cX11_readMaps 121 = .ok (.aload_n 0, 1) := by decide +kernel
theorem dX11_readMaps_122 : decode cX11_readMaps 122 = .ok (.invokevirtual 156, 3) := by decide +kernel
theorem dX11_readMaps_125 : decode cX11_readMaps 125 = .ok (.ifCond .ne 5, 3) := by decide +kernel
theorem dX11_readMaps_128 : decode cX11_readMaps 128 = .ok (.iconst 0, 1) := by decide +kernel
theorem dX11_readMaps_129 : decode cX11_readMaps 129 = .ok (.ireturn, 1) := by decide +kernel
theorem dX11_readMaps_130 : decode cX11_readMaps 130 = .ok (.aload_n 0, 1) := by decide +kernel
theorem dX11_readMaps_131 : decode cX11_readMaps 131 = .ok (.getfield 84, 3) := by decide +kernel
theorem dX11_readMaps_134 : decode cX11_readMaps 134 = .ok (.istore_n 1, 1) := by decide +kernel
theorem dX11_readMaps_135 : decode cX11_readMaps 135 = .ok (.aload_n 0, 1) := by decide +kernel
theorem dX11_readMaps_136 : decode cX11_readMaps 136 = .ok (.invokevirtual 159, 3) := by decide +kernel
theorem dX11_readMaps_139 : decode cX11_readMaps 139 = .ok (.istore_n 3, 1) := by decide +kernel
theorem dX11_readMaps_140 : decode cX11_readMaps 140 = .ok (.iload_n 3, 1) := by decide +kernel
theorem dX11_readMaps_141 : decode cX11_readMaps 141 = .ok (.ifCond .ge 5, 3) := by decide +kernel
theorem dX11_readMaps_144 : decode cX11_readMaps 144 = .ok (.iconst 0, 1) := by decide +kernel
theorem dX11_readMaps_145 : decode cX11_readMaps 145 = .ok (.ireturn, 1) := by decide +kernel
theorem dX11_readMaps_146 : decode cX11_readMaps 146 = .ok (.iload_n 3, 1) := by decide +kernel
theorem dX11_readMaps_147 : decode cX11_readMaps 147 = .ok (.ifCond .ne 10, 3) := by decide +kernel
theorem dX11_readMaps_150 : decode cX11_readMaps 150 = .ok (.aload_n 0, 1) := by decide +kernel
theorem dX11_readMaps_151 : decode cX11_readMaps 151 = .ok (.iconst 2, 1) := by decide +kernel
theorem dX11_readMaps_152 : decode cX11_readMaps 152 = .ok (.iload_n 1, 1) := by decide +kernel
theorem dX11_readMaps_153 : decode cX11_readMaps 153 = .ok (.invokevirtual 90, 3) := by decide +kernel
theorem dX11_readMaps_156 : decode cX11_readMaps 156 = .ok (.ireturn, 1) := by decide +kernel
theorem dX11_readMaps_157 : decode cX11_readMaps 157 = .ok (.aload_n 0, 1) := by decide +kernel
theorem dX11_readMaps_158 : decode cX11_readMaps 158 = .ok (.iload_n 2, 1) := by decide +kernel
theorem dX11_readMaps_159 : decode cX11_readMaps 159 = .ok (.i2l, 1) := by decide +kernel
theorem dX11_readMaps_160 : decode cX11_readMaps 160 = .ok (.iload_n 3, 1) := by decide +kernel
theorem dX11_readMaps_161 : decode cX11_readMaps 161 = .ok (.i2l, 1) := by decide +kernel
theorem dX11_readMaps_162 : decode cX11_readMaps 162 = .ok (.iload_n 1, 1) := by decide +kernel
theorem dX11_readMaps_163 : decode cX11_readMaps 163 = .ok (.invokevirtual 126, 3) := by decide +kernel
theorem dX11_readMaps_166 : decode cX11_readMaps 166 = .ok (.ifCond .ne 5, 3) := by decide +kernel
theorem dX11_readMaps_169 : decode cX11_readMaps 169 = .ok (.iconst 0, 1) := by decide +kernel
theorem dX11_readMaps_170 : decode cX11_readMaps 170 = .ok (.ireturn, 1) := by decide +kernel
theorem dX11_readMaps_171 : decode cX11_readMaps 171 = .ok (.aload_n 0, 1) := by decide +kernel
theorem dX11_readMaps_172 : decode cX11_readMaps 172 = .ok (.iconst 1, 1) := by decide +kernel
theorem dX11_readMaps_173 : decode cX11_readMaps 173 = .ok (.putfield 133, 3) := by decide +kernel
theorem dX11_readMaps_176 : decode cX11_readMaps 176 = .ok (.aload_n 0, 1) := by decide +kernel
theorem dX11_readMaps_177 : decode cX11_readMaps 177 = .ok (.getfield 130, 3) := by decide +kernel
theorem dX11_readMaps_180 : decode cX11_readMaps 180 = .ok (.iconst 1, 1) := by decide +kernel
theorem dX11_readMaps_181 : decode cX11_readMaps 181 = .ok (.if_icmp .eq 66, 3) := by decide +kernel
theorem dX11_readMaps_184 : decode cX11_readMaps 184 = .ok (.aload_n 0, 1) := by decide +kernel
theorem dX11_readMaps_185 : decode cX11_readMaps 185 = .ok (.getfield 130, 3) := by decide +kernel
theorem dX11_readMaps_188 : decode cX11_readMaps 188 = .ok (.iconst 4, 1) := by decide +kernel
theorem dX11_readMaps_189 : decode cX11_readMaps 189 = .ok (.if_icmp .eq 58, 3) := by decide +kernel
theorem dX11_readMaps_192 : decode cX11_readMaps 192 = .ok (.aload_n 0, 1) := by decide +kernel
theorem dX11_readMaps_193 : decode cX11_readMaps 193 = .ok (.invokevirtual 156, 3) := by decide +kernel
theorem dX11_readMaps_196 : decode cX11_readMaps 196 = .ok (.ifCond .ne 5, 3) := by decide +kernel
theorem dX11_readMaps_199 : decode cX11_readMaps 199 = .ok (.iconst 0, 1) := by decide +kernel
theorem dX11_readMaps_200 : decode cX11_readMaps 200 = .ok (.ireturn, 1) := by decide +kernel
theorem dX11_readMaps_201 : decode cX11_readMaps 201 = .ok (.aload_n 0, 1) := by decide +kernel
theorem dX11_readMaps_202 : decode cX11_readMaps 202 = .ok (.getfield 84, 3) := by decide +kernel
theorem dX11_readMaps_205 : decode cX11_readMaps 205 = .ok (.istore_n 1, 1) := by decide +kernel
theorem dX11_readMaps_206 : decode cX11_readMaps 206 = .ok (.aload_n 0, 1) := by decide +kernel
theorem dX11_readMaps_207 : decode cX11_readMaps 207 = .ok (.aload_n 0, 1) := by decide +kernel
theorem dX11_readMaps_208 : decode cX11_readMaps 208 = .ok (.invokevirtual 159, 3) := by decide +kernel
theorem dX11_readMaps_211 : decode cX11_readMaps 211 = .ok (.putfield 133, 3) := by decide +kernel
theorem dX11_readMaps_214 : decode cX11_readMaps 214 = .ok (.aload_n 0, 1) := by decide +kernel
theorem dX11_readMaps_215 : decode cX11_readMaps 215 = .ok (.getfield 133, 3) := by decide +kernel
theorem dX11_readMaps_218 : decode cX11_readMaps 218 = .ok (.ifCond .ge 5, 3) := by decide +kernel
theorem dX11_readMaps_221 : decode cX11_readMaps 221 = .ok (.iconst 0, 1) := by decide +kernel
theorem dX11_readMaps_222 : decode cX11_readMaps 222 = .ok (.ireturn, 1) := by decide +kernel
theorem dX11_readMaps_223 : decode cX11_readMaps 223 = .ok (.aload_n 0, 1) := by decide +kernel
theorem dX11_readMaps_224 : decode cX11_readMaps 224 = .ok (.getfield 133, 3) := by decide +kernel
theorem dX11_readMaps_227 : decode cX11_readMaps 227 = .ok (.iconst 1, 1) := by decide +kernel
theorem dX11_readMaps_228 : decode cX11_readMaps 228 = .ok (.if_icmp .lt 12, 3) := by decide +kernel
theorem dX11_readMaps_231 : decode cX11_readMaps 231 = .ok (.aload_n 0, 1) := by decide +kernel
theorem dX11_readMaps_232 : decode cX11_readMaps 232 = .ok (.getfield 133, 3) := by decide +kernel
theorem dX11_readMaps_235 : decode cX11_readMaps 235 = .ok (.ldc 163, 2) := by decide +kernel
theorem dX11_readMaps_237 : decode cX11_readMaps 237 = .ok (.if_icmp .le 10, 3) := by decide +kernel
theorem dX11_readMaps_240 : decode cX11_readMaps 240 = .ok (.aload_n 0, 1) := by decide +kernel
theorem dX11_readMaps_241 : decode cX11_readMaps 241 = .ok (.iconst 2, 1) := by decide +kernel
theorem dX11_readMaps_242 : decode cX11_readMaps 242 = .ok (.iload_n 1, 1) := by decide +kernel
theorem dX11_readMaps_243 : decode cX11_readMaps 243 = .ok (.invokevirtual 90, 3) := by decide +kernel
theorem dX11_readMaps_246 : decode cX11_readMaps 246 = .ok (.ireturn, 1) := by decide +kernel
theorem dX11_readMaps_247 : decode cX11_readMaps 247 = .ok (.aload_n 0, 1) := by decide +kernel
theorem dX11_readMaps_248 : decode cX11_readMaps 248 = .ok (.getfield 130, 3) := by decide +kernel
theorem dX11_readMaps_251 : decode cX11_readMaps 251 = .ok (.iconst 3, 1) := by decide +kernel
theorem dX11_readMaps_252 : decode cX11_readMaps 252 = .ok (.if_icmp .le 48, 3) := by decide +kernel
theorem dX11_readMaps_255 : decode cX11_readMaps 255 = .ok (.aload_n 0, 1) := by decide +kernel
theorem dX11_readMaps_256 : decode cX11_readMaps 256 = .ok (.iconst 1, 1) := by decide +kernel
theorem dX11_readMaps_257 : decode cX11_readMaps 257 = .ok (.invokevirtual 103, 3) := by decide +kernel
theorem dX11_readMaps_260 : decode cX11_readMaps 260 = .ok (.ifCond .ne 5, 3) := by decide +kernel
theorem dX11_readMaps_263 : decode cX11_readMaps 263 = .ok (.iconst 0, 1) := by decide +kernel
theorem dX11_readMaps_264 : decode cX11_readMaps 264 = .ok (.ireturn, 1) := by decide +kernel
theorem dX11_readMaps_265 : decode cX11_readMaps 265 = .ok (.aload_n 0, 1) := by decide +kernel
theorem dX11_readMaps_266 : decode cX11_readMaps 266 = .ok (.aload_n 0, 1) := by decide +kernel
theorem dX11_readMaps_267 : decode cX11_readMaps 267 = .ok (.aload_n 0, 1) := by decide +kernel
theorem dX11_readMaps_268 : decode cX11_readMaps 268 = .ok (.getfield 84, 3) := by decide +kernel
theorem dX11_readMaps_271 : decode cX11_readMaps 271 = .ok (.invokevirtual 99, 3) := by decide +kernel
theorem dX11_readMaps_274 : decode cX11_readMaps 274 = .ok (.invokevirtual 149, 3) := by decide +kernel
theorem dX11_readMaps_277 : decode cX11_readMaps 277 = .ok (.ifCond .ne 13, 3) := by decide +kernel
theorem dX11_readMaps_280 : decode cX11_readMaps 280 = .ok (.aload_n 0, 1) := by decide +kernel
theorem dX11_readMaps_281 : decode cX11_readMaps 281 = .ok (.iconst 2, 1) := by decide +kernel
theorem dX11_readMaps_282 : decode cX11_readMaps 282 = .ok (.aload_n 0, 1) := by decide +kernel
theorem dX11_readMaps_283 : decode cX11_readMaps 283 = .ok (.getfield 84, 3) := by decide +kernel
theorem dX11_readMaps_286 : decode cX11_readMaps 286 = .ok (.invokevirtual 90, 3) := by decide +kernel
theorem dX11_readMaps_289 : decode cX11_readMaps 289 = .ok (.ireturn, 1) := by decide +kernel
theorem dX11_readMaps_290 : decode cX11_readMaps 290 = .ok (.aload_n 0, 1) := by decide +kernel
theorem dX11_readMaps_291 : decode cX11_readMaps 291 = .ok (.dup, 1) := by decide +kernel
theorem dX11_readMaps_292 : decode cX11_readMaps 292 = .ok (.getfield 84, 3) := by decide +kernel
theorem dX11_readMaps_295 : decode cX11_readMaps 295 = .ok (.iconst 1, 1) := by decide +kernel
theorem dX11_readMaps_296 : decode cX11_readMaps 296 = .ok (.iadd, 1) := by decide +kernel
theorem dX11_readMaps_297 : decode cX11_readMaps 297 = .ok (.putfield 84, 3) := by decide +kernel
theorem dX11_readMaps_300 : decode cX11_readMaps 300 = .ok (.aload_n 0, 1) := by decide +kernel
theorem dX11_readMaps_301 : decode cX11_readMaps 301 = .ok (.aload_n 0, 1) := by decide +kernel
theorem dX11_readMaps_302 : decode cX11_readMaps 302 = .ok (.getfield 84, 3) := by decide +kernel
theorem dX11_readMaps_305 : decode cX11_readMaps 305 = .ok (.putfield 136, 3) := by decide +kernel
theorem dX11_readMaps_308 : decode cX11_readMaps 308 = .ok (.aload_n 0, 1) := by decide +kernel
theorem dX11_readMaps_309 : decode cX11_readMaps 309 = .ok (.getfield 130, 3) := by decide +kernel
theorem dX11_readMaps_312 : decode cX11_readMaps 312 = .ok (.iconst 1, 1) := by decide +kernel
theorem dX11_readMaps_313 : decode cX11_readMaps 313 = .ok (.if_icmp .ne 10, 3) := by decide +kernel
theorem dX11_readMaps_316 : decode cX11_readMaps 316 = .ok (.aload_n 0, 1) := by decide +kernel
theorem dX11_readMaps_317 : decode cX11_readMaps 317 = .ok (.invokevirtual 164, 3) := by decide +kernel
theorem dX11_readMaps_320 : decode cX11_readMaps 320 = .ok (.goto 37, 3) := by decide +kernel
theorem dX11_readMaps_323 : decode cX11_readMaps 323 = .ok (.aload_n 0, 1) := by decide +kernel
theorem dX11_readMaps_324 : decode cX11_readMaps 324 = .ok (.getfield 130, 3) := by decide +kernel
theorem dX11_readMaps_327 : decode cX11_readMaps 327 = .ok (.iconst 4, 1) := by decide +kernel
theorem dX11_readMaps_328 : decode cX11_readMaps 328 = .ok (.if_icmp .ge 10, 3) := by decide +kernel
theorem dX11_readMaps_331 : decode cX11_readMaps 331 = .ok (.aload_n 0, 1) := by decide +kernel
theorem dX11_readMaps_332 : decode cX11_readMaps 332 = .ok (.invokevirtual 167, 3) := by decide +kernel
theorem dX11_readMaps_335 : decode cX11_readMaps 335 = .ok (.goto 22, 3) := by decide +kernel
theorem dX11_readMaps_338 : decode cX11_readMaps 338 = .ok (.aload_n 0, 1) := by decide +kernel
theorem dX11_readMaps_339 : decode cX11_readMaps 339 = .ok (.getfield 130, 3) := by decide +kernel
theorem dX11_readMaps_342 : decode cX11_readMaps 342 = .ok (.iconst 4, 1) := by decide +kernel
theorem dX11_readMaps_343 : decode cX11_readMaps 343 = .ok (.if_icmp .ne 10, 3) := by decide +kernel
theorem dX11_readMaps_346 : decode cX11_readMaps 346 = .ok (.aload_n 0, 1) := by decide +kernel
theorem dX11_readMaps_347 : decode cX11_readMaps 347 = .ok (.invokevirtual 170, 3) := by decide +kernel
theorem dX11_readMaps_350 : decode cX11_readMaps 350 = .ok (.goto 7, 3) := by decide +kernel
theorem dX11_readMaps_353 : decode cX11_readMaps 353 = .ok (.aload_n 0, 1) := by decide +kernel
theorem dX11_readMaps_354 : decode cX11_readMaps 354 = .ok (.invokevirtual 173, 3) := by decide +kernel
theorem dX11_readMaps_357 : decode cX11_readMaps 357 = .ok (.ireturn, 1) := by decide +kernel
theorem dX11_readSigns_0 : decode cX11_readSigns 0 = .ok (.iconst 0, 1) := by decide +kernel
theorem dX11_readSigns_1 : decode cX11_readSigns 1 = .ok (.istore_n 1, 1) := by decide +kernel
theorem dX11_readSigns_2 : decode cX11_readSigns 2 = .ok (.iload_n 1, 1) := by decide +kernel
theorem dX11_readSigns_3 : decode cX11_readSigns 3 = .ok (.aload_n 0, 1) := by decide +kernel
theorem dX11_readSigns_4 : decode cX11_readSigns 4 = .ok (.getfield 109, 3) := by decide +kernel
theorem dX11_readSigns_7 : decode cX11_readSigns 7 = .ok (.aload_n 0, 1) := by decide +kernel
theorem dX11_readSigns_8 : decode cX11_readSigns 8 = .ok (.getfield 112, 3) := by decide +kernel
theorem dX11_readSigns_11 : decode cX11_readSigns 11 = .ok (.imul, 1) := by decide +kernel
theorem dX11_readSigns_12 : decode cX11_readSigns 12 = .ok (.if_icmp .ge 111, 3) := by decide +kernel
theorem dX11_readSigns_15 : decode cX11_readSigns 15 = .ok (.iload_n 1, 1) := by decide +kernel
theorem dX11_readSigns_16 : decode cX11_readSigns 16 = .ok (.ifCond .ne 12, 3) := by decide +kernel
theorem dX11_readSigns_19 : decode cX11_readSigns 19 = .ok (.aload_n 0, 1) := by decide +kernel
theorem dX11_readSigns_20 : decode cX11_readSigns 20 = .ok (.invokevirtual 156, 3) := by decide +kernel
theorem dX11_readSigns_23 : decode cX11_readSigns 23 = .ok (.ifCond .ne 9, 3) := by decide +kernel
theorem dX11_readSigns_26 : decode cX11_readSigns 26 = .ok (.iconst 0, 1) := by decide +kernel
theorem dX11_readSigns_27 : decode cX11_readSigns 27 = .ok (.ireturn, 1) := by decide +kernel
theorem dX11_readSigns_28 : decode cX11_readSigns 28 = .ok (.aload_n 0, 1) := by decide +kernel
theorem dX11_readSigns_29 : decode cX11_readSigns 29 = .ok (.invokevirtual 152, 3) := by decide +kernel
theorem dX11_readSigns_32 : decode cX11_readSigns 32 = .ok (.aload_n 0, 1) := by decide +kernel
theorem dX11_readSigns_33 : decode cX11_readSigns 33 = .ok (.iconst 1, 1) := by decide +kernel
theorem dX11_readSigns_34 : decode cX11_readSigns 34 = .ok (.invokevirtual 103, 3) := by decide +kernel
theorem dX11_readSigns_37 : decode cX11_readSigns 37 = .ok (.ifCond .ne 5, 3) := by decide +kernel
theorem dX11_readSigns_40 : decode cX11_readSigns 40 = .ok (.iconst 0, 1) := by decide +kernel
theorem dX11_readSigns_41 : decode cX11_readSigns 41 = .ok (.ireturn, 1) := by decide +kernel
theorem dX11_readSigns_42 : decode cX11_readSigns 42 = .ok (.aload_n 0, 1) := by decide +kernel
theorem dX11_readSigns_43 : decode cX11_readSigns 43 = .ok (.aload_n 0, 1) := by decide +kernel
theorem dX11_readSigns_44 : decode cX11_readSigns 44 = .ok (.getfield 84, 3) := by decide +kernel
theorem dX11_readSigns_47 : decode cX11_readSigns 47 = .ok (.invokevirtual 99, 3) := by decide +kernel
theorem dX11_readSigns_50 : decode cX11_readSigns 50 = .ok (.bipush 48, 2) := by decide +kernel
theorem dX11_readSigns_52 : decode cX11_readSigns 52 = .ok (.if_icmp .eq 26, 3) := by decide +kernel
theorem dX11_readSigns_55 : decode cX11_readSigns 55 = .ok (.aload_n 0, 1) := by decide +kernel
theorem dX11_readSigns_56 : decode cX11_readSigns 56 = .ok (.aload_n 0, 1) := by decide +kernel
theorem dX11_readSigns_57 : decode cX11_readSigns 57 = .ok (.getfield 84, 3) := by decide +kernel
theorem dX11_readSigns_60 : decode cX11_readSigns 60 = .ok (.invokevirtual 99, 3) := by decide +kernel
theorem dX11_readSigns_63 : decode cX11_readSigns 63 = .ok (.bipush 49, 2) := by decide +kernel
theorem dX11_readSigns_65 : decode cX11_readSigns 65 = .ok (.if_icmp .eq 13, 3) := by decide +kernel
theorem dX11_readSigns_68 : decode cX11_readSigns 68 = .ok (.aload_n 0, 1) := by decide +kernel
theorem dX11_readSigns_69 : decode cX11_readSigns 69 = .ok (.iconst 2, 1) := by decide +kernel
theorem dX11_readSigns_70 : decode cX11_readSigns 70 = .ok (.aload_n 0, 1) := by decide +kernel
theorem dX11_readSigns_71 : decode cX11_readSigns 71 = .ok (.getfield 84, 3) := by decide +kernel
theorem dX11_readSigns_74 : decode cX11_readSigns 74 = .ok (.invokevirtual 90, 3) := by decide +kernel
theorem dX11_readSigns_77 : decode cX11_readSigns 77 = .ok (.ireturn, 1) := by decide +kernel
theorem dX11_readSigns_78 : decode cX11_readSigns 78 = .ok (.aload_n 0, 1) := by decide +kernel
theorem dX11_readSigns_79 : decode cX11_readSigns 79 = .ok (.getfield 27, 3) := by decide +kernel
theorem dX11_readSigns_82 : decode cX11_readSigns 82 = .ok (.iload_n 1, 1) := by decide +kernel
theorem dX11_readSigns_83 : decode cX11_readSigns 83 = .ok (.aload_n 0, 1) := by decide +kernel
theorem dX11_readSigns_84 : decode cX11_readSigns 84 = .ok (.aload_n 0, 1) := by decide +kernel
theorem dX11_readSigns_85 : decode cX11_readSigns 85 = .ok (.getfield 84, 3) := by decide +kernel
theorem dX11_readSigns_88 : decode cX11_readSigns 88 = .ok (.invokevirtual 99, 3) := by decide +kernel
theorem dX11_readSigns_91 : decode cX11_readSigns 91 = .ok (.bipush 49, 2) := by decide +kernel
theorem dX11_readSigns_93 : decode cX11_readSigns 93 = .ok (.if_icmp .ne 7, 3) := by decide +kernel
theorem dX11_readSigns_96 : decode cX11_readSigns 96 = .ok (.iconst 0, 1) := by decide +kernel
theorem dX11_readSigns_97 : decode cX11_readSigns 97 = .ok (.goto 6, 3) := by decide +kernel
theorem dX11_readSigns_100 : decode cX11_readSigns 100 = .ok (.sipush 255, 3) := by decide +kernel
theorem dX11_readSigns_103 : decode cX11_readSigns 103 = .ok (.invokestatic 176, 3) := by decide +kernel
theorem dX11_readSigns_106 : decode cX11_readSigns 106 = .ok (.iastore, 1) := by decide +kernel
theorem dX11_readSigns_107 : decode cX11_readSigns 107 = .ok (.aload_n 0, 1) := by decide +kernel
theorem dX11_readSigns_108 : decode cX11_readSigns 108 = .ok (.dup, 1) := by decide +kernel
theorem dX11_readSigns_109 : decode cX11_readSigns 109 = .ok (.getfield 84, 3) := by decide +kernel
theorem dX11_readSigns_112 : decode cX11_readSigns 112 = .ok (.iconst 1, 1) := by decide +kernel
theorem dX11_readSigns_113 : decode cX11_readSigns 113 = .ok (.iadd, 1) := by decide +kernel
theorem dX11_readSigns_114 : decode cX11_readSigns 114 = .ok (.putfield 84, 3) := by decide +kernel
theorem dX11_readSigns_117 : decode cX11_readSigns 117 = .ok (.iinc 1 1, 3) := by decide +kernel
theorem dX11_readSigns_120 : decode cX11_readSigns 120 = .ok (.goto (-118), 3) := by decide +kernel
theorem dX11_readSigns_123 : decode cX11_readSigns 123 = .ok (.aload_n 0, 1) := by decide +kernel
theorem dX11_readSigns_124 : decode cX11_readSigns 124 = .ok (.invokevirtual 152, 3) := by decide +kernel
theorem dX11_readSigns_127 : decode cX11_readSigns 127 = .ok (.aload_n 0, 1) := by decide +kernel
theorem dX11_readSigns_128 : decode cX11_readSigns 128 = .ok (.invokevirtual 145, 3) := by decide +kernel
theorem dX11_readSigns_131 : decode cX11_readSigns 131 = .ok (.ireturn, 1) := by decide +kernel
theorem dX11_readNumbers_0 : decode cX11_readNumbers 0 = .ok (.aload_n 0, 1) := by decide +kernel
theorem dX11_readNumbers_1 : decode cX11_readNumbers 1 = .ok (.getfield 130, 3) := by decide +kernel
theorem dX11_readNumbers_4 : decode cX11_readNumbers 4 = .ok (.iconst 2, 1) := by decide +kernel
theorem dX11_readNumbers_5 : decode cX11_readNumbers 5 = .ok (.if_icmp .ne 7, 3) := by decide +kernel
theorem dX11_readNumbers_8 : decode cX11_readNumbers 8 = .ok (.iconst 1, 1) := by decide +kernel
theorem dX11_readNumbers_9 : decode cX11_readNumbers 9 = .ok (.goto 4, 3) := by decide +kernel
theorem dX11_readNumbers_12 : decode cX11_readNumbers 12 = .ok (.iconst 3, 1) := by decide +kernel
theorem dX11_readNumbers_13 : decode cX11_readNumbers 13 = .ok (.istore_n 1, 1) := by decide +kernel
theorem dX11_readNumbers_14 : decode cX11_readNumbers 14 = .ok (.iconst 0, 1) := by decide +kernel
theorem dX11_readNumbers_15 : decode cX11_readNumbers 15 = .ok (.istore_n 2, 1) := by decide +kernel
theorem dX11_readNumbers_16 : decode cX11_readNumbers 16 = .ok (.iload_n 2, 1) := by decide +kernel
theorem dX11_readNumbers_17 : decode cX11_readNumbers 17 = .ok (.aload_n 0, 1) := by decide +kernel
theorem dX11_readNumbers_18 : decode cX11_readNumbers 18 = .ok (.getfield 109, 3) := by decide +kernel
theorem dX11_readNumbers_21 : decode cX11_readNumbers 21 = .ok (.aload_n 0, 1) := by decide +kernel
theorem dX11_readNumbers_22 : decode cX11_readNumbers 22 = .ok (.getfield 112, 3) := by decide +kernel
theorem dX11_readNumbers_25 : decode cX11_readNumbers 25 = .ok (.imul, 1) := by decide +kernel
theorem dX11_readNumbers_26 : decode cX11_readNumbers 26 = .ok (.if_icmp .ge 113, 3) := by decide +kernel
theorem dX11_readNumbers_29 : decode cX11_readNumbers 29 = .ok (.iconst 0, 1) := by decide +kernel
theorem dX11_readNumbers_30 : decode cX11_readNumbers 30 = .ok (.istore_n 3, 1) := by decide +kernel
theorem dX11_readNumbers_31 : decode cX11_readNumbers 31 = .ok (.iconst 0, 1) := by decide +kernel
theorem dX11_readNumbers_32 : decode cX11_readNumbers 32 = .ok (.istore 4, 2) := by decide +kernel
theorem dX11_readNumbers_34 : decode cX11_readNumbers 34 = .ok (.iload 4, 2) := by decide +kernel
theorem dX11_readNumbers_36 : decode cX11_readNumbers 36 = .ok (.iload_n 1, 1) := by decide +kernel
theorem dX11_readNumbers_37 : decode cX11_readNumbers 37 = .ok (.if_icmp .ge 70, 3) := by decide +kernel
theorem dX11_readNumbers_40 : decode cX11_readNumbers 40 = .ok (.aload_n 0, 1) := by decide +kernel
theorem dX11_readNumbers_41 : decode cX11_readNumbers 41 = .ok (.invokevirtual 156, 3) := by decide +kernel
theorem dX11_readNumbers_44 : decode cX11_readNumbers 44 = .ok (.ifCond .ne 5, 3) := by decide +kernel
theorem dX11_readNumbers_47 : decode cX11_readNumbers 47 = .ok (.iconst 0, 1) := by decide +kernel
theorem dX11_readNumbers_48 : decode cX11_readNumbers 48 = .ok (.ireturn, 1) := by decide +kernel
theorem dX11_readNumbers_49 : decode cX11_readNumbers 49 = .ok (.aload_n 0, 1) := by decide +kernel
theorem dX11_readNumbers_50 : decode cX11_readNumbers 50 = .ok (.getfield 84, 3) := by decide +kernel
theorem dX11_readNumbers_53 : decode cX11_readNumbers 53 = .ok (.istore 5, 2) := by decide +kernel
theorem dX11_readNumbers_55 : decode cX11_readNumbers 55 = .ok (.aload_n 0, 1) := by decide +kernel
theorem dX11_readNumbers_56 : decode cX11_readNumbers 56 = .ok (.invokevirtual 159, 3) := by decide +kernel
theorem dX11_readNumbers_59 : decode cX11_readNumbers 59 = .ok (.istore 6, 2) := by decide +kernel
theorem dX11_readNumbers_61 : decode cX11_readNumbers 61 = .ok (.iload 6, 2) := by decide +kernel
theorem dX11_readNumbers_63 : decode cX11_readNumbers 63 = .ok (.ifCond .ge 5, 3) := by decide +kernel
theorem dX11_readNumbers_66 : decode cX11_readNumbers 66 = .ok (.iconst 0, 1) := by decide +kernel
theorem dX11_readNumbers_67 : decode cX11_readNumbers 67 = .ok (.ireturn, 1) := by decide +kernel
theorem dX11_readNumbers_68 : decode cX11_readNumbers 68 = .ok (.iload 6, 2) := by decide +kernel
theorem dX11_readNumbers_70 : decode cX11_readNumbers 70 = .ok (.aload_n 0, 1) := by decide +kernel
theorem dX11_readNumbers_71 : decode cX11_readNumbers 71 = .ok (.getfield 133, 3) := by decide +kernel
theorem dX11_readNumbers_74 : decode cX11_readNumbers 74 = .ok (.if_icmp .le 12, 3) := by decide +kernel
theorem dX11_readNumbers_77 : decode cX11_readNumbers 77 = .ok (.aload_n 0, 1) := by decide +kernel
theorem dX11_readNumbers_78 : decode cX11_readNumbers 78 = .ok (.bipush 6, 2) := by decide +kernel
theorem dX11_readNumbers_80 : decode cX11_readNumbers 80 = .ok (.iload 5, 2) := by decide +kernel
theorem dX11_readNumbers_82 : decode cX11_readNumbers 82 = .ok (.invokevirtual 90, 3) := by decide +kernel
theorem dX11_readNumbers_85 : decode cX11_readNumbers 85 = .ok (.ireturn, 1) := by decide +kernel
theorem dX11_readNumbers_86 : decode cX11_readNumbers 86 = .ok (.iload_n 3, 1) := by decide +kernel
theorem dX11_readNumbers_87 : decode cX11_readNumbers 87 = .ok (.bipush 8, 2) := by decide +kernel
theorem dX11_readNumbers_89 : decode cX11_readNumbers 89 = .ok (.ishl, 1) := by decide +kernel
theorem dX11_readNumbers_90 : decode cX11_readNumbers 90 = .ok (.iload 6, 2) := by decide +kernel
theorem dX11_readNumbers_92 : decode cX11_readNumbers 92 = .ok (.aload_n 0, 1) := by decide +kernel
theorem dX11_readNumbers_93 : decode cX11_readNumbers 93 = .ok (.getfield 133, 3) := by decide +kernel
theorem dX11_readNumbers_96 : decode cX11_readNumbers 96 = .ok (.invokestatic 179, 3) := by decide +kernel
theorem dX11_readNumbers_99 : decode cX11_readNumbers 99 = .ok (.ior, 1) := by decide +kernel
theorem dX11_readNumbers_100 : decode cX11_readNumbers 100 = .ok (.istore_n 3, 1) := by decide +kernel
theorem dX11_readNumbers_101 : decode cX11_readNumbers 101 = .ok (.iinc 4 1, 3) := by decide +kernel
theorem dX11_readNumbers_104 : decode cX11_readNumbers 104 = .ok (.goto (-70), 3) := by decide +kernel
theorem dX11_readNumbers_107 : decode cX11_readNumbers 107 = .ok (.aload_n 0, 1) := by decide +kernel
theorem dX11_readNumbers_108 : decode cX11_readNumbers 108 = .ok (.getfield 27, 3) := by decide +kernel
theorem dX11_readNumbers_111 : decode cX11_readNumbers 111 = .ok (.iload_n 2, 1) := by decide +kernel
theorem dX11_readNumbers_112 : decode cX11_readNumbers 112 = .ok (.iload_n 1, 1) := by decide +kernel
theorem dX11_readNumbers_113 : decode cX11_readNumbers 113 = .ok (.iconst 1, 1) := by decide +kernel
theorem dX11_readNumbers_114 : decode cX11_readNumbers 114 = .ok (.if_icmp .ne 10, 3) := by decide +kernel
theorem dX11_readNumbers_117 : decode cX11_readNumbers 117 = .ok (.iload_n 3, 1) := by decide +kernel
theorem dX11_readNumbers_118 : decode cX11_readNumbers 118 = .ok (.invokestatic 176, 3) := by decide +kernel
theorem dX11_readNumbers_121 : decode cX11_readNumbers 121 = .ok (.goto 11, 3) := by decide +kernel
theorem dX11_readNumbers_124 : decode cX11_readNumbers 124 = .ok (.iload_n 3, 1) := by decide +kernel
theorem dX11_readNumbers_125 : decode cX11_readNumbers 125 = .ok (.bipush 8, 2) := by decide +kernel
theorem dX11_readNumbers_127 : decode cX11_readNumbers 127 = .ok (.ishl, 1) := by decide +kernel
theorem dX11_readNumbers_128 : decode cX11_readNumbers 128 = .ok (.sipush 255, 3) := by decide +kernel
theorem dX11_readNumbers_131 : decode cX11_readNumbers 131 = .ok (.ior, 1) := by decide +kernel
theorem dX11_readNumbers_132 : decode cX11_readNumbers 132 = .ok (.iastore, 1) := by decide +kernel
theorem dX11_readNumbers_133 : decode cX11_readNumbers 133 = .ok (.iinc 2 1, 3) := by decide +kernel
theorem dX11_readNumbers_136 : decode cX11_readNumbers 136 = .ok (.goto (-120), 3) := by decide +kernel
theorem dX11_readNumbers_139 : decode cX11_readNumbers 139 = .ok (.aload_n 0, 1) := by decide +kernel
theorem dX11_readNumbers_140 : decode cX11_readNumbers 140 = .ok (.invokevirtual 152, 3) := by decide +kernel
theorem dX11_readNumbers_143 : decode cX11_readNumbers 143 = .ok (.aload_n 0, 1) := by decide +kernel
theorem dX11_readNumbers_144 : decode cX11_readNumbers 144 = .ok (.invokevirtual 145, 3) := by decide +kernel
theorem dX11_readNumbers_147 : decode cX11_readNumbers 147 = .ok (.ireturn, 1) := by decide +kernel
theorem dX11_readBits_0 : decode cX11_readBits 0 = .ok (.iconst 0, 1) := by decide +kernel
theorem dX11_readBits_1 : decode cX11_readBits 1 = .ok (.istore_n 1, 1) := by decide +kernel
theorem dX11_readBits_2 : decode cX11_readBits 2 = .ok (.iload_n 1, 1) := by decide +kernel
theorem dX11_readBits_3 : decode cX11_readBits 3 = .ok (.aload_n 0, 1) := by decide +kernel
theorem dX11_readBits_4 : decode cX11_readBits 4 = .ok (.getfield 109, 3) := by decide +kernel
theorem dX11_readBits_7 : decode cX11_readBits 7 = .ok (.aload_n 0, 1) := by decide +kernel
theorem dX11_readBits_8 : decode cX11_readBits 8 = .ok (.getfield 112, 3) := by decide +kernel
theorem dX11_readBits_11 : decode cX11_readBits 11 = .ok (.imul, 1) := by decide +kernel
theorem dX11_readBits_12 : decode cX11_readBits 12 = .ok (.if_icmp .ge 83, 3) := by decide +kernel
theorem dX11_readBits_15 : decode cX11_readBits 15 = .ok (.iload_n 1, 1) := by decide +kernel
theorem dX11_readBits_16 : decode cX11_readBits 16 = .ok (.aload_n 0, 1) := by decide +kernel
theorem dX11_readBits_17 : decode cX11_readBits 17 = .ok (.getfield 109, 3) := by decide +kernel
theorem dX11_readBits_20 : decode cX11_readBits 20 = .ok (.irem, 1) := by decide +kernel
theorem dX11_readBits_21 : decode cX11_readBits 21 = .ok (.istore_n 2, 1) := by decide +kernel
theorem dX11_readBits_22 : decode cX11_readBits 22 = .ok (.iload_n 2, 1) := by decide +kernel
theorem dX11_readBits_23 : decode cX11_readBits 23 = .ok (.bipush 8, 2) := by decide +kernel
theorem dX11_readBits_25 : decode cX11_readBits 25 = .ok (.irem, 1) := by decide +kernel
theorem dX11_readBits_26 : decode cX11_readBits 26 = .ok (.ifCond .ne 23, 3) := by decide +kernel
theorem dX11_readBits_29 : decode cX11_readBits 29 = .ok (.aload_n 0, 1) := by decide +kernel
theorem dX11_readBits_30 : decode cX11_readBits 30 = .ok (.iconst 1, 1) := by decide +kernel
theorem dX11_readBits_31 : decode cX11_readBits 31 = .ok (.invokevirtual 103, 3) := by decide +kernel
theorem dX11_readBits_34 : decode cX11_readBits 34 = .ok (.ifCond .ne 5, 3) := by decide +kernel
theorem dX11_readBits_37 : decode cX11_readBits 37 = .ok (.iconst 0, 1) := by decide +kernel
theorem dX11_readBits_38 : decode cX11_readBits 38 = .ok (.ireturn, 1) := by decide +kernel
theorem dX11_readBits_39 : decode cX11_readBits 39 = .ok (.aload_n 0, 1) := by decide +kernel
theorem dX11_readBits_40 : decode cX11_readBits 40 = .ok (.dup, 1) := by decide +kernel
theorem dX11_readBits_41 : decode cX11_readBits 41 = .ok (.getfield 84, 3) := by decide +kernel
theorem dX11_readBits_44 : decode cX11_readBits 44 = .ok (.iconst 1, 1) := by decide +kernel
theorem dX11_readBits_45 : decode cX11_readBits 45 = .ok (.iadd, 1) := by decide +kernel
theorem dX11_readBits_46 : decode cX11_readBits 46 = .ok (.putfield 84, 3) := by decide +kernel
theorem dX11_readBits_49 : decode cX11_readBits 49 = .ok (.aload_n 0, 1) := by decide +kernel
theorem dX11_readBits_50 : decode cX11_readBits 50 = .ok (.getfield 27, 3) := by decide +kernel
theorem dX11_readBits_53 : decode cX11_readBits 53 = .ok (.iload_n 1, 1) := by decide +kernel
theorem dX11_readBits_54 : decode cX11_readBits 54 = .ok (.aload_n 0, 1) := by decide +kernel
theorem dX11_readBits_55 : decode cX11_readBits 55 = .ok (.aload_n 0, 1) := by decide +kernel
theorem dX11_readBits_56 : decode cX11_readBits 56 = .ok (.getfield 84, 3) := by decide +kernel
theorem dX11_readBits_59 : decode cX11_readBits 59 = .ok (.iconst 1, 1) := by decide +kernel
theorem dX11_readBits_60 : decode cX11_readBits 60 = .ok (.isub, 1) := by decide +kernel
theorem dX11_readBits_61 : decode cX11_readBits 61 = .ok (.invokevirtual 99, 3) := by decide +kernel
theorem dX11_readBits_64 : decode cX11_readBits 64 = .ok (.bipush 7, 2) := by decide +kernel
theorem dX11_readBits_66 : decode cX11_readBits 66 = .ok (.iload_n 2, 1) := by decide +kernel
theorem dX11_readBits_67 : decode cX11_readBits 67 = .ok (.bipush 8, 2) := by decide +kernel
theorem dX11_readBits_69 : decode cX11_readBits 69 = .ok (.irem, 1) := by decide +kernel
theorem dX11_readBits_70 : decode cX11_readBits 70 = .ok (.isub, 1) := by decide +kernel
theorem dX11_readBits_71 : decode cX11_readBits 71 = .ok (.ishr, 1) := by decide +kernel
theorem dX11_readBits_72 : decode cX11_readBits 72 = .ok (.iconst 1, 1) := by decide +kernel
theorem dX11_readBits_73 : decode cX11_readBits 73 = .ok (.iand, 1) := by decide +kernel
theorem dX11_readBits_74 : decode cX11_readBits 74 = .ok (.iconst 1, 1) := by decide +kernel
theorem dX11_readBits_75 : decode cX11_readBits 75 = .ok (.if_icmp .ne 7, 3) := by decide +kernel
theorem dX11_readBits_78 : decode cX11_readBits 78 = .ok (.iconst 0, 1) := by decide +kernel
theorem dX11_readBits_79 : decode cX11_readBits 79 = .ok (.goto 6, 3) := by decide +kernel
theorem dX11_readBits_82 : decode cX11_readBits 82 = .ok (.sipush 255, 3) := by decide +kernel
theorem dX11_readBits_85 : decode cX11_readBits 85 = .ok (.invokestatic 176, 3) := by decide +kernel
theorem dX11_readBits_88 : decode cX11_readBits 88 = .ok (.iastore, 1) := by decide +kernel
theorem dX11_readBits_89 : decode cX11_readBits 89 = .ok (.iinc 1 1, 3) := by decide +kernel
theorem dX11_readBits_92 : decode cX11_readBits 92 = .ok (.goto (-90), 3) := by decide +kernel
theorem dX11_readBits_95 : decode cX11_readBits 95 = .ok (.aload_n 0, 1) := by decide +kernel
theorem dX11_readBits_96 : decode cX11_readBits 96 = .ok (.invokevirtual 145, 3) := by decide +kernel
theorem dX11_readBits_99 : decode cX11_readBits 99 = .ok (.ireturn, 1) := by decide +kernel
theorem dX11_readSamples_0 : decode cX11_readSamples 0 = .ok (.aload_n 0, 1) := by decide +kernel
theorem dX11_readSamples_1 : decode cX11_readSamples 1 = .ok (.getfield 130, 3) := by decide +kernel
theorem dX11_readSamples_4 : decode cX11_readSamples 4 = .ok (.iconst 5, 1) := by decide +kernel
theorem dX11_readSamples_5 : decode cX11_readSamples 5 = .ok (.if_icmp .ne 7, 3) := by decide +kernel
theorem dX11_readSamples_8 : decode cX11_readSamples 8 = .ok (.iconst 1, 1) := by decide +kernel
