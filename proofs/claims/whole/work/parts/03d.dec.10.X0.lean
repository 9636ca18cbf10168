theorem dX0_init_0 : decode cX0_init 0 = .ok (.aload_n 0, 1) := by decide +kernel
theorem dX0_init_1 : decode cX0_init 1 = .ok (.invokespecial 3, 3) := by decide +kernel
theorem dX0_init_4 : decode cX0_init 4 = .ok (.aload_n 0, 1) := by decide +kernel
theorem dX0_init_5 : decode cX0_init 5 = .ok (.sipush 256, 3) := by decide +kernel
theorem dX0_init_8 : decode cX0_init 8 = .ok (.newarray .int, 2) := by decide +kernel
theorem dX0_init_10 : decode cX0_init 10 = .ok (.putfield 9, 3) := by decide +kernel
theorem dX0_init_13 : decode cX0_init 13 = .ok (.aload_n 0, 1) := by decide +kernel
theorem dX0_init_14 : decode cX0_init 14 = .ok (.aload_n 1, 1) := by decide +kernel
theorem dX0_init_15 : decode cX0_init 15 = .ok (.putfield 15, 3) := by decide +kernel
theorem dX0_init_18 : decode cX0_init 18 = .ok (.return_, 1) := by decide +kernel
theorem dX0_decode_0 : decode cX0_decode 0 = .ok (.aload_n 1, 1) := by decide +kernel
theorem dX0_decode_1 : decode cX0_decode 1 = .ok (.bipush 66, 2) := by decide +kernel
theorem dX0_decode_3 : decode cX0_decode 3 = .ok (.invokevirtual 19, 3) := by decide +kernel
theorem dX0_decode_6 : decode cX0_decode 6 = .ok (.aload_n 1, 1) := by decide +kernel
theorem dX0_decode_7 : decode cX0_decode 7 = .ok (.bipush 77, 2) := by decide +kernel
theorem dX0_decode_9 : decode cX0_decode 9 = .ok (.invokevirtual 19, 3) := by decide +kernel
theorem dX0_decode_12 : decode cX0_decode 12 = .ok (.aload_n 1, 1) := by decide +kernel
theorem dX0_decode_13 : decode cX0_decode 13 = .ok (.aload_n 1, 1) := by decide +kernel
theorem dX0_decode_14 : decode cX0_decode 14 = .ok (.getfield 25, 3) := by decide +kernel
theorem dX0_decode_17 : decode cX0_decode 17 = .ok (.invokevirtual 29, 3) := by decide +kernel
theorem dX0_decode_20 : decode cX0_decode 20 = .ok (.aload_n 1, 1) := by decide +kernel
theorem dX0_decode_21 : decode cX0_decode 21 = .ok (.iconst 0, 1) := by decide +kernel
theorem dX0_decode_22 : decode cX0_decode 22 = .ok (.invokevirtual 29, 3) := by decide +kernel
theorem dX0_decode_25 : decode cX0_decode 25 = .ok (.aload_n 1, 1) := by decide +kernel
theorem dX0_decode_26 : decode cX0_decode 26 = .ok (.invokevirtual 32, 3) := by decide +kernel
theorem dX0_decode_29 : decode cX0_decode 29 = .ok (.istore_n 3, 1) := by decide +kernel
theorem dX0_decode_30 : decode cX0_decode 30 = .ok (.aload_n 1, 1) := by decide +kernel
theorem dX0_decode_31 : decode cX0_decode 31 = .ok (.bipush 40, 2) := by decide +kernel
theorem dX0_decode_33 : decode cX0_decode 33 = .ok (.invokevirtual 29, 3) := by decide +kernel
theorem dX0_decode_36 : decode cX0_decode 36 = .ok (.aload_n 0, 1) := by decide +kernel
theorem dX0_decode_37 : decode cX0_decode 37 = .ok (.aload_n 1, 1) := by decide +kernel
theorem dX0_decode_38 : decode cX0_decode 38 = .ok (.aload_n 2, 1) := by decide +kernel
theorem dX0_decode_39 : decode cX0_decode 39 = .ok (.invokevirtual 36, 3) := by decide +kernel
theorem dX0_decode_42 : decode cX0_decode 42 = .ok (.aload_n 0, 1) := by decide +kernel
theorem dX0_decode_43 : decode cX0_decode 43 = .ok (.aload_n 1, 1) := by decide +kernel
theorem dX0_decode_44 : decode cX0_decode 44 = .ok (.invokevirtual 40, 3) := by decide +kernel
theorem dX0_decode_47 : decode cX0_decode 47 = .ok (.aload_n 1, 1) := by decide +kernel
theorem dX0_decode_48 : decode cX0_decode 48 = .ok (.invokevirtual 32, 3) := by decide +kernel
theorem dX0_decode_51 : decode cX0_decode 51 = .ok (.istore 4, 2) := by decide +kernel
theorem dX0_decode_53 : decode cX0_decode 53 = .ok (.aload_n 1, 1) := by decide +kernel
theorem dX0_decode_54 : decode cX0_decode 54 = .ok (.bipush 8, 2) := by decide +kernel
theorem dX0_decode_56 : decode cX0_decode 56 = .ok (.invokevirtual 44, 3) := by decide +kernel
theorem dX0_decode_59 : decode cX0_decode 59 = .ok (.aload_n 0, 1) := by decide +kernel
theorem dX0_decode_60 : decode cX0_decode 60 = .ok (.aload_n 1, 1) := by decide +kernel
theorem dX0_decode_61 : decode cX0_decode 61 = .ok (.invokevirtual 47, 3) := by decide +kernel
theorem dX0_decode_64 : decode cX0_decode 64 = .ok (.aload_n 1, 1) := by decide +kernel
theorem dX0_decode_65 : decode cX0_decode 65 = .ok (.iconst 4, 1) := by decide +kernel
theorem dX0_decode_66 : decode cX0_decode 66 = .ok (.invokevirtual 44, 3) := by decide +kernel
theorem dX0_decode_69 : decode cX0_decode 69 = .ok (.aload_n 0, 1) := by decide +kernel
theorem dX0_decode_70 : decode cX0_decode 70 = .ok (.aload_n 1, 1) := by decide +kernel
theorem dX0_decode_71 : decode cX0_decode 71 = .ok (.iload_n 3, 1) := by decide +kernel
theorem dX0_decode_72 : decode cX0_decode 72 = .ok (.iload 4, 2) := by decide +kernel
theorem dX0_decode_74 : decode cX0_decode 74 = .ok (.invokevirtual 50, 3) := by decide +kernel
theorem dX0_decode_77 : decode cX0_decode 77 = .ok (.aload_n 0, 1) := by decide +kernel
theorem dX0_decode_78 : decode cX0_decode 78 = .ok (.aload_n 1, 1) := by decide +kernel
theorem dX0_decode_79 : decode cX0_decode 79 = .ok (.invokevirtual 54, 3) := by decide +kernel
theorem dX0_decode_82 : decode cX0_decode 82 = .ok (.aload_n 1, 1) := by decide +kernel
theorem dX0_decode_83 : decode cX0_decode 83 = .ok (.iload_n 3, 1) := by decide +kernel
theorem dX0_decode_84 : decode cX0_decode 84 = .ok (.putfield 57, 3) := by decide +kernel
theorem dX0_decode_87 : decode cX0_decode 87 = .ok (.aload_n 0, 1) := by decide +kernel
theorem dX0_decode_88 : decode cX0_decode 88 = .ok (.getfield 60, 3) := by decide +kernel
theorem dX0_decode_91 : decode cX0_decode 91 = .ok (.ifCond .ne 12, 3) := by decide +kernel
theorem dX0_decode_94 : decode cX0_decode 94 = .ok (.aload_n 0, 1) := by decide +kernel
theorem dX0_decode_95 : decode cX0_decode 95 = .ok (.aload_n 1, 1) := by decide +kernel
theorem dX0_decode_96 : decode cX0_decode 96 = .ok (.aload_n 2, 1) := by decide +kernel
theorem dX0_decode_97 : decode cX0_decode 97 = .ok (.invokevirtual 63, 3) := by decide +kernel
theorem dX0_decode_100 : decode cX0_decode 100 = .ok (.goto 9, 3) := by decide +kernel
theorem dX0_decode_103 : decode cX0_decode 103 = .ok (.aload_n 0, 1) := by decide +kernel
theorem dX0_decode_104 : decode cX0_decode 104 = .ok (.aload_n 1, 1) := by decide +kernel
theorem dX0_decode_105 : decode cX0_decode 105 = .ok (.aload_n 2, 1) := by decide +kernel
theorem dX0_decode_106 : decode cX0_decode 106 = .ok (.invokevirtual 66, 3) := by decide +kernel
theorem dX0_decode_109 : decode cX0_decode 109 = .ok (.aload_n 1, 1) := by decide +kernel
theorem dX0_decode_110 : decode cX0_decode 110 = .ok (.invokevirtual 69, 3) := by decide +kernel
theorem dX0_decode_113 : decode cX0_decode 113 = .ok (.aload_n 0, 1) := by decide +kernel
theorem dX0_decode_114 : decode cX0_decode 114 = .ok (.aload_n 0, 1) := by decide +kernel
theorem dX0_decode_115 : decode cX0_decode 115 = .ok (.getfield 72, 3) := by decide +kernel
theorem dX0_decode_118 : decode cX0_decode 118 = .ok (.putfield 75, 3) := by decide +kernel
theorem dX0_decode_121 : decode cX0_decode 121 = .ok (.aload_n 0, 1) := by decide +kernel
theorem dX0_decode_122 : decode cX0_decode 122 = .ok (.aload_n 0, 1) := by decide +kernel
theorem dX0_decode_123 : decode cX0_decode 123 = .ok (.getfield 60, 3) := by decide +kernel
theorem dX0_decode_126 : decode cX0_decode 126 = .ok (.putfield 78, 3) := by decide +kernel
theorem dX0_decode_129 : decode cX0_decode 129 = .ok (.aload_n 0, 1) := by decide +kernel
theorem dX0_decode_130 : decode cX0_decode 130 = .ok (.aload_n 0, 1) := by decide +kernel
theorem dX0_decode_131 : decode cX0_decode 131 = .ok (.getfield 81, 3) := by decide +kernel
theorem dX0_decode_134 : decode cX0_decode 134 = .ok (.putfield 84, 3) := by decide +kernel
theorem dX0_decode_137 : decode cX0_decode 137 = .ok (.return_, 1) := by decide +kernel
theorem dX0_readSize_0 : decode cX0_readSize 0 = .ok (.aload_n 1, 1) := by decide +kernel
theorem dX0_readSize_1 : decode cX0_readSize 1 = .ok (.getfield 57, 3) := by decide +kernel
theorem dX0_readSize_4 : decode cX0_readSize 4 = .ok (.istore_n 3, 1) := by decide +kernel
theorem dX0_readSize_5 : decode cX0_readSize 5 = .ok (.aload_n 1, 1) := by decide +kernel
theorem dX0_readSize_6 : decode cX0_readSize 6 = .ok (.invokevirtual 32, 3) := by decide +kernel
theorem dX0_readSize_9 : decode cX0_readSize 9 = .ok (.istore 4, 2) := by decide +kernel
theorem dX0_readSize_11 : decode cX0_readSize 11 = .ok (.iload 4, 2) := by decide +kernel
theorem dX0_readSize_13 : decode cX0_readSize 13 = .ok (.iconst 1, 1) := by decide +kernel
theorem dX0_readSize_14 : decode cX0_readSize 14 = .ok (.if_icmp .ge 9, 3) := by decide +kernel
theorem dX0_readSize_17 : decode cX0_readSize 17 = .ok (.aload_n 1, 1) := by decide +kernel
theorem dX0_readSize_18 : decode cX0_readSize 18 = .ok (.iconst 2, 1) := by decide +kernel
theorem dX0_readSize_19 : decode cX0_readSize 19 = .ok (.iload_n 3, 1) := by decide +kernel
theorem dX0_readSize_20 : decode cX0_readSize 20 = .ok (.invokevirtual 87, 3) := by decide +kernel
theorem dX0_readSize_23 : decode cX0_readSize 23 = .ok (.aload_n 1, 1) := by decide +kernel
theorem dX0_readSize_24 : decode cX0_readSize 24 = .ok (.getfield 57, 3) := by decide +kernel
theorem dX0_readSize_27 : decode cX0_readSize 27 = .ok (.istore_n 3, 1) := by decide +kernel
theorem dX0_readSize_28 : decode cX0_readSize 28 = .ok (.aload_n 1, 1) := by decide +kernel
theorem dX0_readSize_29 : decode cX0_readSize 29 = .ok (.invokevirtual 32, 3) := by decide +kernel
theorem dX0_readSize_32 : decode cX0_readSize 32 = .ok (.i2l, 1) := by decide +kernel
theorem dX0_readSize_33 : decode cX0_readSize 33 = .ok (.lstore 5, 2) := by decide +kernel
theorem dX0_readSize_35 : decode cX0_readSize 35 = .ok (.lload 5, 2) := by decide +kernel
theorem dX0_readSize_37 : decode cX0_readSize 37 = .ok (.lconst 0, 1) := by decide +kernel
theorem dX0_readSize_38 : decode cX0_readSize 38 = .ok (.lcmp, 1) := by decide +kernel
theorem dX0_readSize_39 : decode cX0_readSize 39 = .ok (.ifCond .ne 9, 3) := by decide +kernel
theorem dX0_readSize_42 : decode cX0_readSize 42 = .ok (.aload_n 1, 1) := by decide +kernel
theorem dX0_readSize_43 : decode cX0_readSize 43 = .ok (.iconst 2, 1) := by decide +kernel
theorem dX0_readSize_44 : decode cX0_readSize 44 = .ok (.iload_n 3, 1) := by decide +kernel
theorem dX0_readSize_45 : decode cX0_readSize 45 = .ok (.invokevirtual 87, 3) := by decide +kernel
theorem dX0_readSize_48 : decode cX0_readSize 48 = .ok (.aload_n 0, 1) := by decide +kernel
theorem dX0_readSize_49 : decode cX0_readSize 49 = .ok (.lload 5, 2) := by decide +kernel
theorem dX0_readSize_51 : decode cX0_readSize 51 = .ok (.lconst 0, 1) := by decide +kernel
theorem dX0_readSize_52 : decode cX0_readSize 52 = .ok (.lcmp, 1) := by decide +kernel
theorem dX0_readSize_53 : decode cX0_readSize 53 = .ok (.ifCond .ge 7, 3) := by decide +kernel
theorem dX0_readSize_56 : decode cX0_readSize 56 = .ok (.iconst 1, 1) := by decide +kernel
theorem dX0_readSize_57 : decode cX0_readSize 57 = .ok (.goto 4, 3) := by decide +kernel
theorem dX0_readSize_60 : decode cX0_readSize 60 = .ok (.iconst 0, 1) := by decide +kernel
theorem dX0_readSize_61 : decode cX0_readSize 61 = .ok (.putfield 91, 3) := by decide +kernel
theorem dX0_readSize_64 : decode cX0_readSize 64 = .ok (.aload_n 1, 1) := by decide +kernel
theorem dX0_readSize_65 : decode cX0_readSize 65 = .ok (.aload_n 2, 1) := by decide +kernel
theorem dX0_readSize_66 : decode cX0_readSize 66 = .ok (.iload 4, 2) := by decide +kernel
theorem dX0_readSize_68 : decode cX0_readSize 68 = .ok (.i2l, 1) := by decide +kernel
theorem dX0_readSize_69 : decode cX0_readSize 69 = .ok (.aload_n 0, 1) := by decide +kernel
theorem dX0_readSize_70 : decode cX0_readSize 70 = .ok (.getfield 91, 3) := by decide +kernel
theorem dX0_readSize_73 : decode cX0_readSize 73 = .ok (.ifCond .eq 9, 3) := by decide +kernel
theorem dX0_readSize_76 : decode cX0_readSize 76 = .ok (.lload 5, 2) := by decide +kernel
theorem dX0_readSize_78 : decode cX0_readSize 78 = .ok (.lneg, 1) := by decide +kernel
theorem dX0_readSize_79 : decode cX0_readSize 79 = .ok (.goto 5, 3) := by decide +kernel
theorem dX0_readSize_82 : decode cX0_readSize 82 = .ok (.lload 5, 2) := by decide +kernel
theorem dX0_readSize_84 : decode cX0_readSize 84 = .ok (.iload_n 3, 1) := by decide +kernel
theorem dX0_readSize_85 : decode cX0_readSize 85 = .ok (.invokevirtual 95, 3) := by decide +kernel
theorem dX0_readSize_88 : decode cX0_readSize 88 = .ok (.return_, 1) := by decide +kernel
theorem dX0_readDepth_0 : decode cX0_readDepth 0 = .ok (.aload_n 1, 1) := by decide +kernel
theorem dX0_readDepth_1 : decode cX0_readDepth 1 = .ok (.getfield 57, 3) := by decide +kernel
theorem dX0_readDepth_4 : decode cX0_readDepth 4 = .ok (.istore_n 2, 1) := by decide +kernel
theorem dX0_readDepth_5 : decode cX0_readDepth 5 = .ok (.aload_n 1, 1) := by decide +kernel
theorem dX0_readDepth_6 : decode cX0_readDepth 6 = .ok (.invokevirtual 99, 3) := by decide +kernel
theorem dX0_readDepth_9 : decode cX0_readDepth 9 = .ok (.iconst 1, 1) := by decide +kernel
theorem dX0_readDepth_10 : decode cX0_readDepth 10 = .ok (.if_icmp .eq 9, 3) := by decide +kernel
theorem dX0_readDepth_13 : decode cX0_readDepth 13 = .ok (.aload_n 1, 1) := by decide +kernel
theorem dX0_readDepth_14 : decode cX0_readDepth 14 = .ok (.iconst 2, 1) := by decide +kernel
theorem dX0_readDepth_15 : decode cX0_readDepth 15 = .ok (.iload_n 2, 1) := by decide +kernel
theorem dX0_readDepth_16 : decode cX0_readDepth 16 = .ok (.invokevirtual 87, 3) := by decide +kernel
theorem dX0_readDepth_19 : decode cX0_readDepth 19 = .ok (.aload_n 1, 1) := by decide +kernel
theorem dX0_readDepth_20 : decode cX0_readDepth 20 = .ok (.getfield 57, 3) := by decide +kernel
theorem dX0_readDepth_23 : decode cX0_readDepth 23 = .ok (.istore_n 2, 1) := by decide +kernel
theorem dX0_readDepth_24 : decode cX0_readDepth 24 = .ok (.aload_n 0, 1) := by decide +kernel
theorem dX0_readDepth_25 : decode cX0_readDepth 25 = .ok (.aload_n 1, 1) := by decide +kernel
theorem dX0_readDepth_26 : decode cX0_readDepth 26 = .ok (.invokevirtual 99, 3) := by decide +kernel
theorem dX0_readDepth_29 : decode cX0_readDepth 29 = .ok (.putfield 72, 3) := by decide +kernel
theorem dX0_readDepth_32 : decode cX0_readDepth 32 = .ok (.aload_n 0, 1) := by decide +kernel
theorem dX0_readDepth_33 : decode cX0_readDepth 33 = .ok (.getfield 72, 3) := by decide +kernel
theorem dX0_readDepth_36 : decode cX0_readDepth 36 = .ok (.iconst 1, 1) := by decide +kernel
theorem dX0_readDepth_37 : decode cX0_readDepth 37 = .ok (.if_icmp .eq 53, 3) := by decide +kernel
theorem dX0_readDepth_40 : decode cX0_readDepth 40 = .ok (.aload_n 0, 1) := by decide +kernel
theorem dX0_readDepth_41 : decode cX0_readDepth 41 = .ok (.getfield 72, 3) := by decide +kernel
theorem dX0_readDepth_44 : decode cX0_readDepth 44 = .ok (.iconst 4, 1) := by decide +kernel
theorem dX0_readDepth_45 : decode cX0_readDepth 45 = .ok (.if_icmp .eq 45, 3) := by decide +kernel
theorem dX0_readDepth_48 : decode cX0_readDepth 48 = .ok (.aload_n 0, 1) := by decide +kernel
theorem dX0_readDepth_49 : decode cX0_readDepth 49 = .ok (.getfield 72, 3) := by decide +kernel
theorem dX0_readDepth_52 : decode cX0_readDepth 52 = .ok (.bipush 8, 2) := by decide +kernel
theorem dX0_readDepth_54 : decode cX0_readDepth 54 = .ok (.if_icmp .eq 36, 3) := by decide +kernel
theorem dX0_readDepth_57 : decode cX0_readDepth 57 = .ok (.aload_n 0, 1) := by decide +kernel
theorem dX0_readDepth_58 : decode cX0_readDepth 58 = .ok (.getfield 72, 3) := by decide +kernel
theorem dX0_readDepth_61 : decode cX0_readDepth 61 = .ok (.bipush 16, 2) := by decide +kernel
theorem dX0_readDepth_63 : decode cX0_readDepth 63 = .ok (.if_icmp .eq 27, 3) := by decide +kernel
theorem dX0_readDepth_66 : decode cX0_readDepth 66 = .ok (.aload_n 0, 1) := by decide +kernel
theorem dX0_readDepth_67 : decode cX0_readDepth 67 = .ok (.getfield 72, 3) := by decide +kernel
theorem dX0_readDepth_70 : decode cX0_readDepth 70 = .ok (.bipush 24, 2) := by decide +kernel
theorem dX0_readDepth_72 : decode cX0_readDepth 72 = .ok (.if_icmp .eq 18, 3) := by decide +kernel
theorem dX0_readDepth_75 : decode cX0_readDepth 75 = .ok (.aload_n 0, 1) := by decide +kernel
theorem dX0_readDepth_76 : decode cX0_readDepth 76 = .ok (.getfield 72, 3) := by decide +kernel
theorem dX0_readDepth_79 : decode cX0_readDepth 79 = .ok (.bipush 32, 2) := by decide +kernel
theorem dX0_readDepth_81 : decode cX0_readDepth 81 = .ok (.if_icmp .eq 9, 3) := by decide +kernel
theorem dX0_readDepth_84 : decode cX0_readDepth 84 = .ok (.aload_n 1, 1) := by decide +kernel
theorem dX0_readDepth_85 : decode cX0_readDepth 85 = .ok (.iconst 2, 1) := by decide +kernel
theorem dX0_readDepth_86 : decode cX0_readDepth 86 = .ok (.iload_n 2, 1) := by decide +kernel
theorem dX0_readDepth_87 : decode cX0_readDepth 87 = .ok (.invokevirtual 87, 3) := by decide +kernel
theorem dX0_readDepth_90 : decode cX0_readDepth 90 = .ok (.aload_n 1, 1) := by decide +kernel
theorem dX0_readDepth_91 : decode cX0_readDepth 91 = .ok (.getfield 57, 3) := by decide +kernel
theorem dX0_readDepth_94 : decode cX0_readDepth 94 = .ok (.istore_n 2, 1) := by decide +kernel
theorem dX0_readDepth_95 : decode cX0_readDepth 95 = .ok (.aload_n 0, 1) := by decide +kernel
theorem dX0_readDepth_96 : decode cX0_readDepth 96 = .ok (.aload_n 1, 1) := by decide +kernel
theorem dX0_readDepth_97 : decode cX0_readDepth 97 = .ok (.invokevirtual 32, 3) := by decide +kernel
theorem dX0_readDepth_100 : decode cX0_readDepth 100 = .ok (.putfield 60, 3) := by decide +kernel
theorem dX0_readDepth_103 : decode cX0_readDepth 103 = .ok (.aload_n 0, 1) := by decide +kernel
theorem dX0_readDepth_104 : decode cX0_readDepth 104 = .ok (.getfield 60, 3) := by decide +kernel
theorem dX0_readDepth_107 : decode cX0_readDepth 107 = .ok (.iconst 1, 1) := by decide +kernel
theorem dX0_readDepth_108 : decode cX0_readDepth 108 = .ok (.if_icmp .ne 12, 3) := by decide +kernel
theorem dX0_readDepth_111 : decode cX0_readDepth 111 = .ok (.aload_n 0, 1) := by decide +kernel
theorem dX0_readDepth_112 : decode cX0_readDepth 112 = .ok (.getfield 72, 3) := by decide +kernel
theorem dX0_readDepth_115 : decode cX0_readDepth 115 = .ok (.bipush 8, 2) := by decide +kernel
theorem dX0_readDepth_117 : decode cX0_readDepth 117 = .ok (.if_icmp .eq 19, 3) := by decide +kernel
theorem dX0_readDepth_120 : decode cX0_readDepth 120 = .ok (.aload_n 0, 1) := by decide +kernel
theorem dX0_readDepth_121 : decode cX0_readDepth 121 = .ok (.getfield 60, 3) := by decide +kernel
theorem dX0_readDepth_124 : decode cX0_readDepth 124 = .ok (.iconst 2, 1) := by decide +kernel
theorem dX0_readDepth_125 : decode cX0_readDepth 125 = .ok (.if_icmp .ne 15, 3) := by decide +kernel
theorem dX0_readDepth_128 : decode cX0_readDepth 128 = .ok (.aload_n 0, 1) := by decide +kernel
theorem dX0_readDepth_129 : decode cX0_readDepth 129 = .ok (.getfield 72, 3) := by decide +kernel
theorem dX0_readDepth_132 : decode cX0_readDepth 132 = .ok (.iconst 4, 1) := by decide +kernel
theorem dX0_readDepth_133 : decode cX0_readDepth 133 = .ok (.if_icmp .ne 7, 3) := by decide +kernel
theorem dX0_readDepth_136 : decode cX0_readDepth 136 = .ok (.iconst 1, 1) := by decide +kernel
theorem dX0_readDepth_137 : decode cX0_readDepth 137 = .ok (.goto 4, 3) := by decide +kernel
theorem dX0_readDepth_140 : decode cX0_readDepth 140 = .ok (.iconst 0, 1) := by decide +kernel
theorem dX0_readDepth_141 : decode cX0_readDepth 141 = .ok (.istore_n 3, 1) := by decide +kernel
theorem dX0_readDepth_142 : decode cX0_readDepth 142 = .ok (.aload_n 0, 1) := by decide +kernel
theorem dX0_readDepth_143 : decode cX0_readDepth 143 = .ok (.getfield 60, 3) := by decide +kernel
theorem dX0_readDepth_146 : decode cX0_readDepth 146 = .ok (.ifCond .eq 20, 3) := by decide +kernel
theorem dX0_readDepth_149 : decode cX0_readDepth 149 = .ok (.iload_n 3, 1) := by decide +kernel
theorem dX0_readDepth_150 : decode cX0_readDepth 150 = .ok (.ifCond .eq 10, 3) := by decide +kernel
theorem dX0_readDepth_153 : decode cX0_readDepth 153 = .ok (.aload_n 0, 1) := by decide +kernel
theorem dX0_readDepth_154 : decode cX0_readDepth 154 = .ok (.getfield 91, 3) := by decide +kernel
theorem dX0_readDepth_157 : decode cX0_readDepth 157 = .ok (.ifCond .eq 9, 3) := by decide +kernel
theorem dX0_readDepth_160 : decode cX0_readDepth 160 = .ok (.aload_n 1, 1) := by decide +kernel
theorem dX0_readDepth_161 : decode cX0_readDepth 161 = .ok (.iconst 2, 1) := by decide +kernel
theorem dX0_readDepth_162 : decode cX0_readDepth 162 = .ok (.iload_n 2, 1) := by decide +kernel
theorem dX0_readDepth_163 : decode cX0_readDepth 163 = .ok (.invokevirtual 87, 3) := by decide +kernel
theorem dX0_readDepth_166 : decode cX0_readDepth 166 = .ok (.return_, 1) := by decide +kernel
theorem dX0_readUsed_0 : decode cX0_readUsed 0 = .ok (.aload_n 1, 1) := by decide +kernel
theorem dX0_readUsed_1 : decode cX0_readUsed 1 = .ok (.getfield 57, 3) := by decide +kernel
theorem dX0_readUsed_4 : decode cX0_readUsed 4 = .ok (.istore_n 2, 1) := by decide +kernel
theorem dX0_readUsed_5 : decode cX0_readUsed 5 = .ok (.aload_n 0, 1) := by decide +kernel
theorem dX0_readUsed_6 : decode cX0_readUsed 6 = .ok (.aload_n 1, 1) := by decide +kernel
theorem dX0_readUsed_7 : decode cX0_readUsed 7 = .ok (.invokevirtual 32, 3) := by decide +kernel
theorem dX0_readUsed_10 : decode cX0_readUsed 10 = .ok (.putfield 81, 3) := by decide +kernel
theorem dX0_readUsed_13 : decode cX0_readUsed 13 = .ok (.aload_n 0, 1) := by decide +kernel
theorem dX0_readUsed_14 : decode cX0_readUsed 14 = .ok (.getfield 72, 3) := by decide +kernel
theorem dX0_readUsed_17 : decode cX0_readUsed 17 = .ok (.bipush 8, 2) := by decide +kernel
theorem dX0_readUsed_19 : decode cX0_readUsed 19 = .ok (.if_icmp .gt 12, 3) := by decide +kernel
theorem dX0_readUsed_22 : decode cX0_readUsed 22 = .ok (.iconst 1, 1) := by decide +kernel
theorem dX0_readUsed_23 : decode cX0_readUsed 23 = .ok (.aload_n 0, 1) := by decide +kernel
theorem dX0_readUsed_24 : decode cX0_readUsed 24 = .ok (.getfield 72, 3) := by decide +kernel
theorem dX0_readUsed_27 : decode cX0_readUsed 27 = .ok (.ishl, 1) := by decide +kernel
theorem dX0_readUsed_28 : decode cX0_readUsed 28 = .ok (.goto 4, 3) := by decide +kernel
theorem dX0_readUsed_31 : decode cX0_readUsed 31 = .ok (.iconst 0, 1) := by decide +kernel
theorem dX0_readUsed_32 : decode cX0_readUsed 32 = .ok (.istore_n 3, 1) := by decide +kernel
theorem dX0_readUsed_33 : decode cX0_readUsed 33 = .ok (.aload_n 0, 1) := by decide +kernel
theorem dX0_readUsed_34 : decode cX0_readUsed 34 = .ok (.getfield 81, 3) := by decide +kernel
theorem dX0_readUsed_37 : decode cX0_readUsed 37 = .ok (.ifCond .lt 11, 3) := by decide +kernel
theorem dX0_readUsed_40 : decode cX0_readUsed 40 = .ok (.aload_n 0, 1) := by decide +kernel
theorem dX0_readUsed_41 : decode cX0_readUsed 41 = .ok (.getfield 81, 3) := by decide +kernel
theorem dX0_readUsed_44 : decode cX0_readUsed 44 = .ok (.iload_n 3, 1) := by decide +kernel
theorem dX0_readUsed_45 : decode cX0_readUsed 45 = .ok (.if_icmp .le 9, 3) := by decide +kernel
theorem dX0_readUsed_48 : decode cX0_readUsed 48 = .ok (.aload_n 1, 1) := by decide +kernel
theorem dX0_readUsed_49 : decode cX0_readUsed 49 = .ok (.iconst 2, 1) := by decide +kernel
theorem dX0_readUsed_50 : decode cX0_readUsed 50 = .ok (.iload_n 2, 1) := by decide +kernel
theorem dX0_readUsed_51 : decode cX0_readUsed 51 = .ok (.invokevirtual 87, 3) := by decide +kernel
theorem dX0_readUsed_54 : decode cX0_readUsed 54 = .ok (.aload_n 0, 1) := by decide +kernel
theorem dX0_readUsed_55 : decode cX0_readUsed 55 = .ok (.getfield 81, 3) := by decide +kernel
theorem dX0_readUsed_58 : decode cX0_readUsed 58 = .ok (.ifCond .ne 8, 3) := by decide +kernel
theorem dX0_readUsed_61 : decode cX0_readUsed 61 = .ok (.aload_n 0, 1) := by decide +kernel
theorem dX0_readUsed_62 : decode cX0_readUsed 62 = .ok (.iload_n 3, 1) := by decide +kernel
theorem dX0_readUsed_63 : decode cX0_readUsed 63 = .ok (.putfield 81, 3) := by decide +kernel
theorem dX0_readUsed_66 : decode cX0_readUsed 66 = .ok (.return_, 1) := by decide +kernel
theorem dX0_askLayout_0 : decode cX0_askLayout 0 = .ok (.iload_n 2, 1) := by decide +kernel
theorem dX0_askLayout_1 : decode cX0_askLayout 1 = .ok (.bipush 54, 2) := by decide +kernel
theorem dX0_askLayout_3 : decode cX0_askLayout 3 = .ok (.iconst 4, 1) := by decide +kernel
theorem dX0_askLayout_4 : decode cX0_askLayout 4 = .ok (.aload_n 0, 1) := by decide +kernel
theorem dX0_askLayout_5 : decode cX0_askLayout 5 = .ok (.getfield 81, 3) := by decide +kernel
theorem dX0_askLayout_8 : decode cX0_askLayout 8 = .ok (.imul, 1) := by decide +kernel
theorem dX0_askLayout_9 : decode cX0_askLayout 9 = .ok (.iadd, 1) := by decide +kernel
theorem dX0_askLayout_10 : decode cX0_askLayout 10 = .ok (.if_icmp .lt 11, 3) := by decide +kernel
theorem dX0_askLayout_13 : decode cX0_askLayout 13 = .ok (.iload_n 2, 1) := by decide +kernel
theorem dX0_askLayout_14 : decode cX0_askLayout 14 = .ok (.aload_n 1, 1) := by decide +kernel
theorem dX0_askLayout_15 : decode cX0_askLayout 15 = .ok (.getfield 25, 3) := by decide +kernel
theorem dX0_askLayout_18 : decode cX0_askLayout 18 = .ok (.if_icmp .le 10, 3) := by decide +kernel
theorem dX0_askLayout_21 : decode cX0_askLayout 21 = .ok (.aload_n 1, 1) := by decide +kernel
theorem dX0_askLayout_22 : decode cX0_askLayout 22 = .ok (.iconst 2, 1) := by decide +kernel
theorem dX0_askLayout_23 : decode cX0_askLayout 23 = .ok (.bipush 10, 2) := by decide +kernel
theorem dX0_askLayout_25 : decode cX0_askLayout 25 = .ok (.invokevirtual 87, 3) := by decide +kernel
theorem dX0_askLayout_28 : decode cX0_askLayout 28 = .ok (.aload_n 0, 1) := by decide +kernel
theorem dX0_askLayout_29 : decode cX0_askLayout 29 = .ok (.getfield 60, 3) := by decide +kernel
theorem dX0_askLayout_32 : decode cX0_askLayout 32 = .ok (.ifCond .ne 11, 3) := by decide +kernel
theorem dX0_askLayout_35 : decode cX0_askLayout 35 = .ok (.iload_n 3, 1) := by decide +kernel
theorem dX0_askLayout_36 : decode cX0_askLayout 36 = .ok (.ifCond .ne 7, 3) := by decide +kernel
theorem dX0_askLayout_39 : decode cX0_askLayout 39 = .ok (.iconst 1, 1) := by decide +kernel
theorem dX0_askLayout_40 : decode cX0_askLayout 40 = .ok (.goto 4, 3) := by decide +kernel
theorem dX0_askLayout_43 : decode cX0_askLayout 43 = .ok (.iconst 0, 1) := by decide +kernel
theorem dX0_askLayout_44 : decode cX0_askLayout 44 = .ok (.istore 4, 2) := by decide +kernel
theorem dX0_askLayout_46 : decode cX0_askLayout 46 = .ok (.iload_n 3, 1) := by decide +kernel
theorem dX0_askLayout_47 : decode cX0_askLayout 47 = .ok (.aload_n 1, 1) := by decide +kernel
theorem dX0_askLayout_48 : decode cX0_askLayout 48 = .ok (.getfield 25, 3) := by decide +kernel
theorem dX0_askLayout_51 : decode cX0_askLayout 51 = .ok (.iload_n 2, 1) := by decide +kernel
theorem dX0_askLayout_52 : decode cX0_askLayout 52 = .ok (.isub, 1) := by decide +kernel
theorem dX0_askLayout_53 : decode cX0_askLayout 53 = .ok (.if_icmp .eq 15, 3) := by decide +kernel
theorem dX0_askLayout_56 : decode cX0_askLayout 56 = .ok (.iload 4, 2) := by decide +kernel
theorem dX0_askLayout_58 : decode cX0_askLayout 58 = .ok (.ifCond .ne 10, 3) := by decide +kernel
theorem dX0_askLayout_61 : decode cX0_askLayout 61 = .ok (.aload_n 1, 1) := by decide +kernel
theorem dX0_askLayout_62 : decode cX0_askLayout 62 = .ok (.iconst 2, 1) := by decide +kernel
theorem dX0_askLayout_63 : decode cX0_askLayout 63 = .ok (.bipush 34, 2) := by decide +kernel
theorem dX0_askLayout_65 : decode cX0_askLayout 65 = .ok (.invokevirtual 87, 3) := by decide +kernel
theorem dX0_askLayout_68 : decode cX0_askLayout 68 = .ok (.return_, 1) := by decide +kernel
theorem dX0_readColours_0 : decode cX0_readColours 0 = .ok (.aload_n 0, 1) := by decide +kernel
theorem dX0_readColours_1 : decode cX0_readColours 1 = .ok (.getfield 81, 3) := by decide +kernel
theorem dX0_readColours_4 : decode cX0_readColours 4 = .ok (.sipush 256, 3) := by decide +kernel
theorem dX0_readColours_7 : decode cX0_readColours 7 = .ok (.invokestatic 102, 3) := by decide +kernel
theorem dX0_readColours_10 : decode cX0_readColours 10 = .ok (.istore_n 2, 1) := by decide +kernel
theorem dX0_readColours_11 : decode cX0_readColours 11 = .ok (.iconst 0, 1) := by decide +kernel
theorem dX0_readColours_12 : decode cX0_readColours 12 = .ok (.istore_n 3, 1) := by decide +kernel
theorem dX0_readColours_13 : decode cX0_readColours 13 = .ok (.iload_n 3, 1) := by decide +kernel
theorem dX0_readColours_14 : decode cX0_readColours 14 = .ok (.iload_n 2, 1) := by decide +kernel
theorem dX0_readColours_15 : decode cX0_readColours 15 = .ok (.if_icmp .ge 24, 3) := by decide +kernel
theorem dX0_readColours_18 : decode cX0_readColours 18 = .ok (.aload_n 0, 1) := by decide +kernel
theorem dX0_readColours_19 : decode cX0_readColours 19 = .ok (.getfield 9, 3) := by decide +kernel
theorem dX0_readColours_22 : decode cX0_readColours 22 = .ok (.iload_n 3, 1) := by decide +kernel
theorem dX0_readColours_23 : decode cX0_readColours 23 = .ok (.aload_n 1, 1) := by decide +kernel
theorem dX0_readColours_24 : decode cX0_readColours 24 = .ok (.invokestatic 108, 3) := by decide +kernel
theorem dX0_readColours_27 : decode cX0_readColours 27 = .ok (.iastore, 1) := by decide +kernel
theorem dX0_readColours_28 : decode cX0_readColours 28 = .ok (.aload_n 1, 1) := by decide +kernel
theorem dX0_readColours_29 : decode cX0_readColours 29 = .ok (.invokevirtual 112, 3) := by decide +kernel
theorem dX0_readColours_32 : decode cX0_readColours 32 = .ok (.pop, 1) := by decide +kernel
theorem dX0_readColours_33 : decode cX0_readColours 33 = .ok (.iinc 3 1, 3) := by decide +kernel
theorem dX0_readColours_36 : decode cX0_readColours 36 = .ok (.goto (-23), 3) := by decide +kernel
theorem dX0_readColours_39 : decode cX0_readColours 39 = .ok (.return_, 1) := by decide +kernel
theorem dX0_readBlueFirst_0 : decode cX0_readBlueFirst 0 = .ok (.aload_n 0, 1) := by decide +kernel
theorem dX0_readBlueFirst_1 : decode cX0_readBlueFirst 1 = .ok (.invokevirtual 112, 3) := by decide +kernel
theorem dX0_readBlueFirst_4 : decode cX0_readBlueFirst 4 = .ok (.istore_n 1, 1) := by decide +kernel
theorem dX0_readBlueFirst_5 : decode cX0_readBlueFirst 5 = .ok (.aload_n 0, 1) := by decide +kernel
theorem dX0_readBlueFirst_6 : decode cX0_readBlueFirst 6 = .ok (.invokevirtual 112, 3) := by decide +kernel
theorem dX0_readBlueFirst_9 : decode cX0_readBlueFirst 9 = .ok (.istore_n 2, 1) := by decide +kernel
theorem dX0_readBlueFirst_10 : decode cX0_readBlueFirst 10 = .ok (.aload_n 0, 1) := by decide +kernel
theorem dX0_readBlueFirst_11 : decode cX0_readBlueFirst 11 = .ok (.invokevirtual 112, 3) := by decide +kernel
theorem dX0_readBlueFirst_14 : decode cX0_readBlueFirst 14 = .ok (.istore_n 3, 1) := by decide +kernel
theorem dX0_readBlueFirst_15 : decode cX0_readBlueFirst 15 = .ok (.iload_n 3, 1) := by decide +kernel
theorem dX0_readBlueFirst_16 : decode cX0_readBlueFirst 16 = .ok (.iload_n 2, 1) := by decide +kernel
theorem dX0_readBlueFirst_17 : decode cX0_readBlueFirst 17 = .ok (.iload_n 1, 1) := by decide +kernel
theorem dX0_readBlueFirst_18 : decode cX0_readBlueFirst 18 = .ok (.sipush 255, 3) := by decide +kernel
theorem dX0_readBlueFirst_21 : decode cX0_readBlueFirst 21 = .ok (.invokestatic 115, 3) := by decide +kernel
theorem dX0_readBlueFirst_24 : decode cX0_readBlueFirst 24 = .ok (.ireturn, 1) := by decide +kernel
theorem dX0_colourOf_0 : decode cX0_colourOf 0 = .ok (.iload_n 2, 1) := by decide +kernel
theorem dX0_colourOf_1 : decode cX0_colourOf 1 = .ok (.ifCond .lt 18, 3) := by decide +kernel
theorem dX0_colourOf_4 : decode cX0_colourOf 4 = .ok (.iload_n 2, 1) := by decide +kernel
theorem dX0_colourOf_5 : decode cX0_colourOf 5 = .ok (.aload_n 0, 1) := by decide +kernel
theorem dX0_colourOf_6 : decode cX0_colourOf 6 = .ok (.getfield 81, 3) := by decide +kernel
theorem dX0_colourOf_9 : decode cX0_colourOf 9 = .ok (.if_icmp .ge 10, 3) := by decide +kernel
theorem dX0_colourOf_12 : decode cX0_colourOf 12 = .ok (.iload_n 2, 1) := by decide +kernel
theorem dX0_colourOf_13 : decode cX0_colourOf 13 = .ok (.sipush 256, 3) := by decide +kernel
theorem dX0_colourOf_16 : decode cX0_colourOf 16 = .ok (.if_icmp .lt 12, 3) := by decide +kernel
theorem dX0_colourOf_19 : decode cX0_colourOf 19 = .ok (.aload_n 1, 1) := by decide +kernel
theorem dX0_colourOf_20 : decode cX0_colourOf 20 = .ok (.bipush 6, 2) := by decide +kernel
theorem dX0_colourOf_22 : decode cX0_colourOf 22 = .ok (.iload_n 3, 1) := by decide +kernel
theorem dX0_colourOf_23 : decode cX0_colourOf 23 = .ok (.invokevirtual 87, 3) := by decide +kernel
theorem dX0_colourOf_26 : decode cX0_colourOf 26 = .ok (.iconst 0, 1) := by decide +kernel
theorem dX0_colourOf_27 : decode cX0_colourOf 27 = .ok (.ireturn, 1) := by decide +kernel
theorem dX0_colourOf_28 : decode cX0_colourOf 28 = .ok (.aload_n 0, 1) := by decide +kernel
theorem dX0_colourOf_29 : decode cX0_colourOf 29 = .ok (.getfield 9, 3) := by decide +kernel
theorem dX0_colourOf_32 : decode cX0_colourOf 32 = .ok (.iload_n 2, 1) := by decide +kernel
theorem dX0_colourOf_33 : decode cX0_colourOf 33 = .ok (.iaload, 1) := by decide +kernel
theorem dX0_colourOf_34 : decode cX0_colourOf 34 = .ok (.ireturn, 1) := by decide +kernel
theorem dX0_readRows_0 : decode cX0_readRows 0 = .ok (.aload_n 2, 1) := by decide +kernel
theorem dX0_readRows_1 : decode cX0_readRows 1 = .ok (.getfield 119, 3) := by decide +kernel
theorem dX0_readRows_4 : decode cX0_readRows 4 = .ok (.aload_n 0, 1) := by decide +kernel
theorem dX0_readRows_5 : decode cX0_readRows 5 = .ok (.getfield 72, 3) := by decide +kernel
theorem dX0_readRows_8 : decode cX0_readRows 8 = .ok (.imul, 1) := by decide +kernel
theorem dX0_readRows_9 : decode cX0_readRows 9 = .ok (.bipush 7, 2) := by decide +kernel
theorem dX0_readRows_11 : decode cX0_readRows 11 = .ok (.iadd, 1) := by decide +kernel
theorem dX0_readRows_12 : decode cX0_readRows 12 = .ok (.bipush 8, 2) := by decide +kernel
theorem dX0_readRows_14 : decode cX0_readRows 14 = .ok (.idiv, 1) := by decide +kernel
theorem dX0_readRows_15 : decode cX0_readRows 15 = .ok (.istore_n 3, 1) := by decide +kernel
theorem dX0_readRows_16 : decode cX0_readRows 16 = .ok (.iconst 0, 1) := by decide +kernel
theorem dX0_readRows_17 : decode cX0_readRows 17 = .ok (.istore 4, 2) := by decide +kernel
theorem dX0_readRows_19 : decode cX0_readRows 19 = .ok (.iload 4, 2) := by decide +kernel
theorem dX0_readRows_21 : decode cX0_readRows 21 = .ok (.aload_n 2, 1) := by decide +kernel
theorem dX0_readRows_22 : decode cX0_readRows 22 = .ok (.getfield 124, 3) := by decide +kernel
theorem dX0_readRows_25 : decode cX0_readRows 25 = .ok (.if_icmp .ge 96, 3) := by decide +kernel
theorem dX0_readRows_28 : decode cX0_readRows 28 = .ok (.aload_n 0, 1) := by decide +kernel
theorem dX0_readRows_29 : decode cX0_readRows 29 = .ok (.getfield 91, 3) := by decide +kernel
theorem dX0_readRows_32 : decode cX0_readRows 32 = .ok (.ifCond .eq 8, 3) := by decide +kernel
theorem dX0_readRows_35 : decode cX0_readRows 35 = .ok (.iload 4, 2) := by decide +kernel
theorem dX0_readRows_37 : decode cX0_readRows 37 = .ok (.goto 12, 3) := by decide +kernel
theorem dX0_readRows_40 : decode cX0_readRows 40 = .ok (.aload_n 2, 1) := by decide +kernel
theorem dX0_readRows_41 : decode cX0_readRows 41 = .ok (.getfield 124, 3) := by decide +kernel
theorem dX0_readRows_44 : decode cX0_readRows 44 = .ok (.iconst 1, 1) := by decide +kernel
theorem dX0_readRows_45 : decode cX0_readRows 45 = .ok (.isub, 1) := by decide +kernel
theorem dX0_readRows_46 : decode cX0_readRows 46 = .ok (.iload 4, 2) := by decide +kernel
theorem dX0_readRows_48 : decode cX0_readRows 48 = .ok (.isub, 1) := by decide +kernel
theorem dX0_readRows_49 : decode cX0_readRows 49 = .ok (.aload_n 2, 1) := by decide +kernel
theorem dX0_readRows_50 : decode cX0_readRows 50 = .ok (.getfield 119, 3) := by decide +kernel
theorem dX0_readRows_53 : decode cX0_readRows 53 = .ok (.imul, 1) := by decide +kernel
theorem dX0_readRows_54 : decode cX0_readRows 54 = .ok (.istore 5, 2) := by decide +kernel
theorem dX0_readRows_56 : decode cX0_readRows 56 = .ok (.iconst 0, 1) := by decide +kernel
theorem dX0_readRows_57 : decode cX0_readRows 57 = .ok (.istore 6, 2) := by decide +kernel
theorem dX0_readRows_59 : decode cX0_readRows 59 = .ok (.iload 6, 2) := by decide +kernel
theorem dX0_readRows_61 : decode cX0_readRows 61 = .ok (.aload_n 2, 1) := by decide +kernel
theorem dX0_readRows_62 : decode cX0_readRows 62 = .ok (.getfield 119, 3) := by decide +kernel
theorem dX0_readRows_65 : decode cX0_readRows 65 = .ok (.if_icmp .ge 42, 3) := by decide +kernel
theorem dX0_readRows_68 : decode cX0_readRows 68 = .ok (.aload_n 2, 1) := by decide +kernel
theorem dX0_readRows_69 : decode cX0_readRows 69 = .ok (.iload 5, 2) := by decide +kernel
theorem dX0_readRows_71 : decode cX0_readRows 71 = .ok (.iload 6, 2) := by decide +kernel
theorem dX0_readRows_73 : decode cX0_readRows 73 = .ok (.iadd, 1) := by decide +kernel
theorem dX0_readRows_74 : decode cX0_readRows 74 = .ok (.aload_n 0, 1) := by decide +kernel
theorem dX0_readRows_75 : decode cX0_readRows 75 = .ok (.getfield 72, 3) := by decide +kernel
theorem dX0_readRows_78 : decode cX0_readRows 78 = .ok (.bipush 8, 2) := by decide +kernel
theorem dX0_readRows_80 : decode cX0_readRows 80 = .ok (.if_icmp .gt 13, 3) := by decide +kernel
theorem dX0_readRows_83 : decode cX0_readRows 83 = .ok (.aload_n 0, 1) := by decide +kernel
theorem dX0_readRows_84 : decode cX0_readRows 84 = .ok (.aload_n 1, 1) := by decide +kernel
theorem dX0_readRows_85 : decode cX0_readRows 85 = .ok (.iload 6, 2) := by decide +kernel
theorem dX0_readRows_87 : decode cX0_readRows 87 = .ok (.invokevirtual 127, 3) := by decide +kernel
theorem dX0_readRows_90 : decode cX0_readRows 90 = .ok (.goto 8, 3) := by decide +kernel
theorem dX0_readRows_93 : decode cX0_readRows 93 = .ok (.aload_n 0, 1) := by decide +kernel
theorem dX0_readRows_94 : decode cX0_readRows 94 = .ok (.aload_n 1, 1) := by decide +kernel
theorem dX0_readRows_95 : decode cX0_readRows 95 = .ok (.invokevirtual 131, 3) := by decide +kernel
theorem dX0_readRows_98 : decode cX0_readRows 98 = .ok (.invokevirtual 134, 3) := by decide +kernel
theorem dX0_readRows_101 : decode cX0_readRows 101 = .ok (.iinc 6 1, 3) := by decide +kernel
theorem dX0_readRows_104 : decode cX0_readRows 104 = .ok (.goto (-45), 3) := by decide +kernel
theorem dX0_readRows_107 : decode cX0_readRows 107 = .ok (.aload_n 1, 1) := by decide +kernel
theorem dX0_readRows_108 : decode cX0_readRows 108 = .ok (.iload_n 3, 1) := by decide +kernel
theorem dX0_readRows_109 : decode cX0_readRows 109 = .ok (.ineg, 1) := by decide +kernel
theorem dX0_readRows_110 : decode cX0_readRows 110 = .ok (.iconst 3, 1) := by decide +kernel
theorem dX0_readRows_111 : decode cX0_readRows 111 = .ok (.iand, 1) := by decide +kernel
theorem dX0_readRows_112 : decode cX0_readRows 112 = .ok (.invokevirtual 44, 3) := by decide +kernel
theorem dX0_readRows_115 : decode cX0_readRows 115 = .ok (.iinc 4 1, 3) := by decide +kernel
theorem dX0_readRows_118 : decode cX0_readRows 118 = .ok (.goto (-99), 3) := by decide +kernel
theorem dX0_readRows_121 : decode cX0_readRows 121 = .ok (.return_, 1) := by decide +kernel
theorem dX0_readIndexed_0 : decode cX0_readIndexed 0 = .ok (.iload_n 2, 1) := by decide +kernel
theorem dX0_readIndexed_1 : decode cX0_readIndexed 1 = .ok (.aload_n 0, 1) := by decide +kernel
theorem dX0_readIndexed_2 : decode cX0_readIndexed 2 = .ok (.getfield 72, 3) := by decide +kernel
theorem dX0_readIndexed_5 : decode cX0_readIndexed 5 = .ok (.imul, 1) := by decide +kernel
theorem dX0_readIndexed_6 : decode cX0_readIndexed 6 = .ok (.bipush 7, 2) := by decide +kernel
theorem dX0_readIndexed_8 : decode cX0_readIndexed 8 = .ok (.iand, 1) := by decide +kernel
theorem dX0_readIndexed_9 : decode cX0_readIndexed 9 = .ok (.istore_n 3, 1) := by decide +kernel
theorem dX0_readIndexed_10 : decode cX0_readIndexed 10 = .ok (.iload_n 3, 1) := by decide +kernel
theorem dX0_readIndexed_11 : decode cX0_readIndexed 11 = .ok (.ifCond .ne 11, 3) := by decide +kernel
theorem dX0_readIndexed_14 : decode cX0_readIndexed 14 = .ok (.aload_n 0, 1) := by decide +kernel
theorem dX0_readIndexed_15 : decode cX0_readIndexed 15 = .ok (.aload_n 1, 1) := by decide +kernel
theorem dX0_readIndexed_16 : decode cX0_readIndexed 16 = .ok (.invokevirtual 112, 3) := by decide +kernel
theorem dX0_readIndexed_19 : decode cX0_readIndexed 19 = .ok (.putfield 137, 3) := by decide +kernel
theorem dX0_readIndexed_22 : decode cX0_readIndexed 22 = .ok (.aload_n 0, 1) := by decide +kernel
theorem dX0_readIndexed_23 : decode cX0_readIndexed 23 = .ok (.getfield 137, 3) := by decide +kernel
theorem dX0_readIndexed_26 : decode cX0_readIndexed 26 = .ok (.bipush 8, 2) := by decide +kernel
theorem dX0_readIndexed_28 : decode cX0_readIndexed 28 = .ok (.aload_n 0, 1) := by decide +kernel
theorem dX0_readIndexed_29 : decode cX0_readIndexed 29 = .ok (.getfield 72, 3) := by decide +kernel
theorem dX0_readIndexed_32 : decode cX0_readIndexed 32 = .ok (.isub, 1) := by decide +kernel
theorem dX0_readIndexed_33 : decode cX0_readIndexed 33 = .ok (.iload_n 3, 1) := by decide +kernel
theorem dX0_readIndexed_34 : decode cX0_readIndexed 34 = .ok (.isub, 1) := by decide +kernel
theorem dX0_readIndexed_35 : decode cX0_readIndexed 35 = .ok (.ishr, 1) := by decide +kernel
theorem dX0_readIndexed_36 : decode cX0_readIndexed 36 = .ok (.iconst 1, 1) := by decide +kernel
theorem dX0_readIndexed_37 : decode cX0_readIndexed 37 = .ok (.aload_n 0, 1) := by decide +kernel
theorem dX0_readIndexed_38 : decode cX0_readIndexed 38 = .ok (.getfield 72, 3) := by decide +kernel
theorem dX0_readIndexed_41 : decode cX0_readIndexed 41 = .ok (.ishl, 1) := by decide +kernel
theorem dX0_readIndexed_42 : decode cX0_readIndexed 42 = .ok (.iconst 1, 1) := by decide +kernel
theorem dX0_readIndexed_43 : decode cX0_readIndexed 43 = .ok (.isub, 1) := by decide +kernel
theorem dX0_readIndexed_44 : decode cX0_readIndexed 44 = .ok (.iand, 1) := by decide +kernel
theorem dX0_readIndexed_45 : decode cX0_readIndexed 45 = .ok (.istore 4, 2) := by decide +kernel
theorem dX0_readIndexed_47 : decode cX0_readIndexed 47 = .ok (.aload_n 0, 1) := by decide +kernel
theorem dX0_readIndexed_48 : decode cX0_readIndexed 48 = .ok (.aload_n 1, 1) := by decide +kernel
theorem dX0_readIndexed_49 : decode cX0_readIndexed 49 = .ok (.iload 4, 2) := by decide +kernel
theorem dX0_readIndexed_51 : decode cX0_readIndexed 51 = .ok (.aload_n 1, 1) := by decide +kernel
theorem dX0_readIndexed_52 : decode cX0_readIndexed 52 = .ok (.getfield 57, 3) := by decide +kernel
theorem dX0_readIndexed_55 : decode cX0_readIndexed 55 = .ok (.iconst 1, 1) := by decide +kernel
theorem dX0_readIndexed_56 : decode cX0_readIndexed 56 = .ok (.isub, 1) := by decide +kernel
theorem dX0_readIndexed_57 : decode cX0_readIndexed 57 = .ok (.invokevirtual 140, 3) := by decide +kernel
theorem dX0_readIndexed_60 : decode cX0_readIndexed 60 = .ok (.ireturn, 1) := by decide +kernel
theorem dX0_readDirect_0 : decode cX0_readDirect 0 = .ok (.aload_n 0, 1) := by decide +kernel
theorem dX0_readDirect_1 : decode cX0_readDirect 1 = .ok (.getfield 72, 3) := by decide +kernel
theorem dX0_readDirect_4 : decode cX0_readDirect 4 = .ok (.bipush 16, 2) := by decide +kernel
theorem dX0_readDirect_6 : decode cX0_readDirect 6 = .ok (.if_icmp .ne 14, 3) := by decide +kernel
theorem dX0_readDirect_9 : decode cX0_readDirect 9 = .ok (.aload_n 1, 1) := by decide +kernel
theorem dX0_readDirect_10 : decode cX0_readDirect 10 = .ok (.invokevirtual 99, 3) := by decide +kernel
theorem dX0_readDirect_13 : decode cX0_readDirect 13 = .ok (.sipush 255, 3) := by decide +kernel
theorem dX0_readDirect_16 : decode cX0_readDirect 16 = .ok (.invokestatic 144, 3) := by decide +kernel
theorem dX0_readDirect_19 : decode cX0_readDirect 19 = .ok (.ireturn, 1) := by decide +kernel
theorem dX0_readDirect_20 : decode cX0_readDirect 20 = .ok (.aload_n 1, 1) := by decide +kernel
theorem dX0_readDirect_21 : decode cX0_readDirect 21 = .ok (.invokestatic 108, 3) := by decide +kernel
theorem dX0_readDirect_24 : decode cX0_readDirect 24 = .ok (.istore_n 2, 1) := by decide +kernel
theorem dX0_readDirect_25 : decode cX0_readDirect 25 = .ok (.aload_n 0, 1) := by decide +kernel
theorem dX0_readDirect_26 : decode cX0_readDirect 26 = .ok (.getfield 72, 3) := by decide +kernel
theorem dX0_readDirect_29 : decode cX0_readDirect 29 = .ok (.bipush 32, 2) := by decide +kernel
theorem dX0_readDirect_31 : decode cX0_readDirect 31 = .ok (.if_icmp .ne 8, 3) := by decide +kernel
theorem dX0_readDirect_34 : decode cX0_readDirect 34 = .ok (.aload_n 1, 1) := by decide +kernel
theorem dX0_readDirect_35 : decode cX0_readDirect 35 = .ok (.invokevirtual 112, 3) := by decide +kernel
theorem dX0_readDirect_38 : decode cX0_readDirect 38 = .ok (.pop, 1) := by decide +kernel
theorem dX0_readDirect_39 : decode cX0_readDirect 39 = .ok (.iload_n 2, 1) := by decide +kernel
theorem dX0_readDirect_40 : decode cX0_readDirect 40 = .ok (.ireturn, 1) := by decide +kernel
theorem dX0_readPairs_0 : decode cX0_readPairs 0 = .ok (.aload_n 2, 1) := by decide +kernel
theorem dX0_readPairs_1 : decode cX0_readPairs 1 = .ok (.aload_n 0, 1) := by decide +kernel
theorem dX0_readPairs_2 : decode cX0_readPairs 2 = .ok (.getfield 9, 3) := by decide +kernel
theorem dX0_readPairs_5 : decode cX0_readPairs 5 = .ok (.iconst 0, 1) := by decide +kernel
theorem dX0_readPairs_6 : decode cX0_readPairs 6 = .ok (.iaload, 1) := by decide +kernel
theorem dX0_readPairs_7 : decode cX0_readPairs 7 = .ok (.invokevirtual 147, 3) := by decide +kernel
theorem dX0_readPairs_10 : decode cX0_readPairs 10 = .ok (.aload_n 0, 1) := by decide +kernel
theorem dX0_readPairs_11 : decode cX0_readPairs 11 = .ok (.iconst 0, 1) := by decide +kernel
theorem dX0_readPairs_12 : decode cX0_readPairs 12 = .ok (.putfield 150, 3) := by decide +kernel
theorem dX0_readPairs_15 : decode cX0_readPairs 15 = .ok (.aload_n 0, 1) := by decide +kernel
theorem dX0_readPairs_16 : decode cX0_readPairs 16 = .ok (.iconst 0, 1) := by decide +kernel
theorem dX0_readPairs_17 : decode cX0_readPairs 17 = .ok (.putfield 153, 3) := by decide +kernel
theorem dX0_readPairs_20 : decode cX0_readPairs 20 = .ok (.iconst 1, 1) := by decide +kernel
theorem dX0_readPairs_21 : decode cX0_readPairs 21 = .ok (.istore_n 3, 1) := by decide +kernel
theorem dX0_readPairs_22 : decode cX0_readPairs 22 = .ok (.iconst 0, 1) := by decide +kernel
theorem dX0_readPairs_23 : decode cX0_readPairs 23 = .ok (.istore 4, 2) := by decide +kernel
theorem dX0_readPairs_25 : decode cX0_readPairs 25 = .ok (.iload_n 3, 1) := by decide +kernel
theorem dX0_readPairs_26 : decode cX0_readPairs 26 = .ok (.ifCond .eq 112, 3) := by decide +kernel
theorem dX0_readPairs_29 : decode cX0_readPairs 29 = .ok (.iload 4, 2) := by decide +kernel
theorem dX0_readPairs_31 : decode cX0_readPairs 31 = .ok (.aload_n 1, 1) := by decide +kernel
theorem dX0_readPairs_32 : decode cX0_readPairs 32 = .ok (.getfield 25, 3) := by decide +kernel
theorem dX0_readPairs_35 : decode cX0_readPairs 35 = .ok (.if_icmp .ge 103, 3) := by decide +kernel
theorem dX0_readPairs_38 : decode cX0_readPairs 38 = .ok (.aload_n 1, 1) := by decide +kernel
theorem dX0_readPairs_39 : decode cX0_readPairs 39 = .ok (.getfield 57, 3) := by decide +kernel
theorem dX0_readPairs_42 : decode cX0_readPairs 42 = .ok (.istore 5, 2) := by decide +kernel
theorem dX0_readPairs_44 : decode cX0_readPairs 44 = .ok (.aload_n 1, 1) := by decide +kernel
theorem dX0_readPairs_45 : decode cX0_readPairs 45 = .ok (.invokevirtual 112, 3) := by decide +kernel
theorem dX0_readPairs_48 : decode cX0_readPairs 48 = .ok (.istore 6, 2) := by decide +kernel
theorem dX0_readPairs_50 : decode cX0_readPairs 50 = .ok (.aload_n 1, 1) := by decide +kernel
theorem dX0_readPairs_51 : decode cX0_readPairs 51 = .ok (.invokevirtual 112, 3) := by decide +kernel
theorem dX0_readPairs_54 : decode cX0_readPairs 54 = .ok (.istore 7, 2) := by decide +kernel
theorem dX0_readPairs_56 : decode cX0_readPairs 56 = .ok (.iload 6, 2) := by decide +kernel
theorem dX0_readPairs_58 : decode cX0_readPairs 58 = .ok (.ifCond .le 26, 3) := by decide +kernel
theorem dX0_readPairs_61 : decode cX0_readPairs 61 = .ok (.aload_n 0, 1) := by decide +kernel
theorem dX0_readPairs_62 : decode cX0_readPairs 62 = .ok (.aload_n 1, 1) := by decide +kernel
theorem dX0_readPairs_63 : decode cX0_readPairs 63 = .ok (.aload_n 2, 1) := by decide +kernel
theorem dX0_readPairs_64 : decode cX0_readPairs 64 = .ok (.iload 6, 2) := by decide +kernel
theorem dX0_readPairs_66 : decode cX0_readPairs 66 = .ok (.iload 5, 2) := by decide +kernel
theorem dX0_readPairs_68 : decode cX0_readPairs 68 = .ok (.invokevirtual 156, 3) := by decide +kernel
theorem dX0_readPairs_71 : decode cX0_readPairs 71 = .ok (.aload_n 0, 1) := by decide +kernel
theorem dX0_readPairs_72 : decode cX0_readPairs 72 = .ok (.aload_n 1, 1) := by decide +kernel
theorem dX0_readPairs_73 : decode cX0_readPairs 73 = .ok (.aload_n 2, 1) := by decide +kernel
theorem dX0_readPairs_74 : decode cX0_readPairs 74 = .ok (.iload 6, 2) := by decide +kernel
theorem dX0_readPairs_76 : decode cX0_readPairs 76 = .ok (.iload 7, 2) := by decide +kernel
theorem dX0_readPairs_78 : decode cX0_readPairs 78 = .ok (.invokevirtual 160, 3) := by decide +kernel
theorem dX0_readPairs_81 : decode cX0_readPairs 81 = .ok (.goto 51, 3) := by decide +kernel
theorem dX0_readPairs_84 : decode cX0_readPairs 84 = .ok (.iload 7, 2) := by decide +kernel
theorem dX0_readPairs_86 : decode cX0_readPairs 86 = .ok (.iconst 2, 1) := by decide +kernel
theorem dX0_readPairs_87 : decode cX0_readPairs 87 = .ok (.if_icmp .le 24, 3) := by decide +kernel
theorem dX0_readPairs_90 : decode cX0_readPairs 90 = .ok (.aload_n 0, 1) := by decide +kernel
theorem dX0_readPairs_91 : decode cX0_readPairs 91 = .ok (.aload_n 1, 1) := by decide +kernel
theorem dX0_readPairs_92 : decode cX0_readPairs 92 = .ok (.aload_n 2, 1) := by decide +kernel
theorem dX0_readPairs_93 : decode cX0_readPairs 93 = .ok (.iload 7, 2) := by decide +kernel
theorem dX0_readPairs_95 : decode cX0_readPairs 95 = .ok (.iload 5, 2) := by decide +kernel
theorem dX0_readPairs_97 : decode cX0_readPairs 97 = .ok (.invokevirtual 156, 3) := by decide +kernel
theorem dX0_readPairs_100 : decode cX0_readPairs 100 = .ok (.aload_n 0, 1) := by decide +kernel
theorem dX0_readPairs_101 : decode cX0_readPairs 101 = .ok (.aload_n 1, 1) := by decide +kernel
theorem dX0_readPairs_102 : decode cX0_readPairs 102 = .ok (.aload_n 2, 1) := by decide +kernel
theorem dX0_readPairs_103 : decode cX0_readPairs 103 = .ok (.iload 7, 2) := by decide +kernel
theorem dX0_readPairs_105 : decode cX0_readPairs 105 = .ok (.invokevirtual 163, 3) := by decide +kernel
theorem dX0_readPairs_108 : decode cX0_readPairs 108 = .ok (.goto 24, 3) := by decide +kernel
theorem dX0_readPairs_111 : decode cX0_readPairs 111 = .ok (.iload 7, 2) := by decide +kernel
theorem dX0_readPairs_113 : decode cX0_readPairs 113 = .ok (.iconst 1, 1) := by decide +kernel
theorem dX0_readPairs_114 : decode cX0_readPairs 114 = .ok (.if_icmp .ne 8, 3) := by decide +kernel
theorem dX0_readPairs_117 : decode cX0_readPairs 117 = .ok (.iconst 0, 1) := by decide +kernel
theorem dX0_readPairs_118 : decode cX0_readPairs 118 = .ok (.istore_n 3, 1) := by decide +kernel
theorem dX0_readPairs_119 : decode cX0_readPairs 119 = .ok (.goto 13, 3) := by decide +kernel
theorem dX0_readPairs_122 : decode cX0_readPairs 122 = .ok (.aload_n 0, 1) := by decide +kernel
theorem dX0_readPairs_123 : decode cX0_readPairs 123 = .ok (.aload_n 1, 1) := by decide +kernel
theorem dX0_readPairs_124 : decode cX0_readPairs 124 = .ok (.aload_n 2, 1) := by decide +kernel
theorem dX0_readPairs_125 : decode cX0_readPairs 125 = .ok (.iload 7, 2) := by decide +kernel
theorem dX0_readPairs_127 : decode cX0_readPairs 127 = .ok (.iload 5, 2) := by decide +kernel
theorem dX0_readPairs_129 : decode cX0_readPairs 129 = .ok (.invokevirtual 167, 3) := by decide +kernel
theorem dX0_readPairs_132 : decode cX0_readPairs 132 = .ok (.iinc 4 1, 3) := by decide +kernel
theorem dX0_readPairs_135 : decode cX0_readPairs 135 = .ok (.goto (-110), 3) := by decide +kernel
theorem dX0_readPairs_138 : decode cX0_readPairs 138 = .ok (.return_, 1) := by decide +kernel
theorem dX0_askRoom_0 : decode cX0_askRoom 0 = .ok (.aload_n 0, 1) := by decide +kernel
theorem dX0_askRoom_1 : decode cX0_askRoom 1 = .ok (.getfield 153, 3) := by decide +kernel
theorem dX0_askRoom_4 : decode cX0_askRoom 4 = .ok (.aload_n 2, 1) := by decide +kernel
theorem dX0_askRoom_5 : decode cX0_askRoom 5 = .ok (.getfield 124, 3) := by decide +kernel
theorem dX0_askRoom_8 : decode cX0_askRoom 8 = .ok (.if_icmp .ge 16, 3) := by decide +kernel
theorem dX0_askRoom_11 : decode cX0_askRoom 11 = .ok (.iload_n 3, 1) := by decide +kernel
theorem dX0_askRoom_12 : decode cX0_askRoom 12 = .ok (.aload_n 2, 1) := by decide +kernel
theorem dX0_askRoom_13 : decode cX0_askRoom 13 = .ok (.getfield 119, 3) := by decide +kernel
theorem dX0_askRoom_16 : decode cX0_askRoom 16 = .ok (.aload_n 0, 1) := by decide +kernel
theorem dX0_askRoom_17 : decode cX0_askRoom 17 = .ok (.getfield 150, 3) := by decide +kernel
theorem dX0_askRoom_20 : decode cX0_askRoom 20 = .ok (.isub, 1) := by decide +kernel
theorem dX0_askRoom_21 : decode cX0_askRoom 21 = .ok (.if_icmp .le 10, 3) := by decide +kernel
theorem dX0_askRoom_24 : decode cX0_askRoom 24 = .ok (.aload_n 1, 1) := by decide +kernel
theorem dX0_askRoom_25 : decode cX0_askRoom 25 = .ok (.iconst 4, 1) := by decide +kernel
theorem dX0_askRoom_26 : decode cX0_askRoom 26 = .ok (.iload 4, 2) := by decide +kernel
theorem dX0_askRoom_28 : decode cX0_askRoom 28 = .ok (.invokevirtual 87, 3) := by decide +kernel
theorem dX0_askRoom_31 : decode cX0_askRoom 31 = .ok (.return_, 1) := by decide +kernel
theorem dX0_move_0 : decode cX0_move 0 = .ok (.iload_n 3, 1) := by decide +kernel
theorem dX0_move_1 : decode cX0_move 1 = .ok (.ifCond .ne 37, 3) := by decide +kernel
theorem dX0_move_4 : decode cX0_move 4 = .ok (.aload_n 0, 1) := by decide +kernel
theorem dX0_move_5 : decode cX0_move 5 = .ok (.getfield 153, 3) := by decide +kernel
theorem dX0_move_8 : decode cX0_move 8 = .ok (.aload_n 2, 1) := by decide +kernel
theorem dX0_move_9 : decode cX0_move 9 = .ok (.getfield 124, 3) := by decide +kernel
theorem dX0_move_12 : decode cX0_move 12 = .ok (.if_icmp .lt 10, 3) := by decide +kernel
theorem dX0_move_15 : decode cX0_move 15 = .ok (.aload_n 1, 1) := by decide +kernel
theorem dX0_move_16 : decode cX0_move 16 = .ok (.iconst 4, 1) := by decide +kernel
theorem dX0_move_17 : decode cX0_move 17 = .ok (.iload 4, 2) := by decide +kernel
theorem dX0_move_19 : decode cX0_move 19 = .ok (.invokevirtual 87, 3) := by decide +kernel
theorem dX0_move_22 : decode cX0_move 22 = .ok (.aload_n 0, 1) := by decide +kernel
theorem dX0_move_23 : decode cX0_move 23 = .ok (.iconst 0, 1) := by decide +kernel
theorem dX0_move_24 : decode cX0_move 24 = .ok (.putfield 150, 3) := by decide +kernel
theorem dX0_move_27 : decode cX0_move 27 = .ok (.aload_n 0, 1) := by decide +kernel
theorem dX0_move_28 : decode cX0_move 28 = .ok (.dup, 1) := by decide +kernel
theorem dX0_move_29 : decode cX0_move 29 = .ok (.getfield 153, 3) := by decide +kernel
theorem dX0_move_32 : decode cX0_move 32 = .ok (.iconst 1, 1) := by decide +kernel
theorem dX0_move_33 : decode cX0_move 33 = .ok (.iadd, 1) := by decide +kernel
theorem dX0_move_34 : decode cX0_move 34 = .ok (.putfield 153, 3) := by decide +kernel
theorem dX0_move_37 : decode cX0_move 37 = .ok (.return_, 1) := by decide +kernel
theorem dX0_move_38 : decode cX0_move 38 = .ok (.aload_n 0, 1) := by decide +kernel
theorem dX0_move_39 : decode cX0_move 39 = .ok (.dup, 1) := by decide +kernel
theorem dX0_move_40 : decode cX0_move 40 = .ok (.getfield 150, 3) := by decide +kernel
theorem dX0_move_43 : decode cX0_move 43 = .ok (.aload_n 1, 1) := by decide +kernel
theorem dX0_move_44 : decode cX0_move 44 = .ok (.invokevirtual 112, 3) := by decide +kernel
theorem dX0_move_47 : decode cX0_move 47 = .ok (.iadd, 1) := by decide +kernel
theorem dX0_move_48 : decode cX0_move 48 = .ok (.putfield 150, 3) := by decide +kernel
theorem dX0_move_51 : decode cX0_move 51 = .ok (.aload_n 0, 1) := by decide +kernel
theorem dX0_move_52 : decode cX0_move 52 = .ok (.dup, 1) := by decide +kernel
theorem dX0_move_53 : decode cX0_move 53 = .ok (.getfield 153, 3) := by decide +kernel
theorem dX0_move_56 : decode cX0_move 56 = .ok (.aload_n 1, 1) := by decide +kernel
theorem dX0_move_57 : decode cX0_move 57 = .ok (.invokevirtual 112, 3) := by decide +kernel
theorem dX0_move_60 : decode cX0_move 60 = .ok (.iadd, 1) := by decide +kernel
theorem dX0_move_61 : decode cX0_move 61 = .ok (.putfield 153, 3) := by decide +kernel
theorem dX0_move_64 : decode cX0_move 64 = .ok (.aload_n 0, 1) := by decide +kernel
theorem dX0_move_65 : decode cX0_move 65 = .ok (.getfield 150, 3) := by decide +kernel
theorem dX0_move_68 : decode cX0_move 68 = .ok (.aload_n 2, 1) := by decide +kernel
theorem dX0_move_69 : decode cX0_move 69 = .ok (.getfield 119, 3) := by decide +kernel
theorem dX0_move_72 : decode cX0_move 72 = .ok (.if_icmp .gt 14, 3) := by decide +kernel
theorem dX0_move_75 : decode cX0_move 75 = .ok (.aload_n 0, 1) := by decide +kernel
theorem dX0_move_76 : decode cX0_move 76 = .ok (.getfield 153, 3) := by decide +kernel
theorem dX0_move_79 : decode cX0_move 79 = .ok (.aload_n 2, 1) := by decide +kernel
theorem dX0_move_80 : decode cX0_move 80 = .ok (.getfield 124, 3) := by decide +kernel
theorem dX0_move_83 : decode cX0_move 83 = .ok (.if_icmp .lt 10, 3) := by decide +kernel
theorem dX0_move_86 : decode cX0_move 86 = .ok (.aload_n 1, 1) := by decide +kernel
theorem dX0_move_87 : decode cX0_move 87 = .ok (.iconst 4, 1) := by decide +kernel
theorem dX0_move_88 : decode cX0_move 88 = .ok (.iload 4, 2) := by decide +kernel
theorem dX0_move_90 : decode cX0_move 90 = .ok (.invokevirtual 87, 3) := by decide +kernel
theorem dX0_move_93 : decode cX0_move 93 = .ok (.return_, 1) := by decide +kernel
theorem dX0_readLike_0 : decode cX0_readLike 0 = .ok (.iconst 0, 1) := by decide +kernel
theorem dX0_readLike_1 : decode cX0_readLike 1 = .ok (.istore 5, 2) := by decide +kernel
theorem dX0_readLike_3 : decode cX0_readLike 3 = .ok (.iload 5, 2) := by decide +kernel
theorem dX0_readLike_5 : decode cX0_readLike 5 = .ok (.iload_n 3, 1) := by decide +kernel
theorem dX0_readLike_6 : decode cX0_readLike 6 = .ok (.if_icmp .ge 33, 3) := by decide +kernel
theorem dX0_readLike_9 : decode cX0_readLike 9 = .ok (.aload_n 0, 1) := by decide +kernel
theorem dX0_readLike_10 : decode cX0_readLike 10 = .ok (.aload_n 2, 1) := by decide +kernel
theorem dX0_readLike_11 : decode cX0_readLike 11 = .ok (.aload_n 0, 1) := by decide +kernel
theorem dX0_readLike_12 : decode cX0_readLike 12 = .ok (.aload_n 1, 1) := by decide +kernel
theorem dX0_readLike_13 : decode cX0_readLike 13 = .ok (.aload_n 0, 1) := by decide +kernel
theorem dX0_readLike_14 : decode cX0_readLike 14 = .ok (.iload 4, 2) := by decide +kernel
theorem dX0_readLike_16 : decode cX0_readLike 16 = .ok (.iload 5, 2) := by decide +kernel
theorem dX0_readLike_18 : decode cX0_readLike 18 = .ok (.invokevirtual 170, 3) := by decide +kernel
theorem dX0_readLike_21 : decode cX0_readLike 21 = .ok (.aload_n 1, 1) := by decide +kernel
theorem dX0_readLike_22 : decode cX0_readLike 22 = .ok (.getfield 57, 3) := by decide +kernel
theorem dX0_readLike_25 : decode cX0_readLike 25 = .ok (.iconst 1, 1) := by decide +kernel
theorem dX0_readLike_26 : decode cX0_readLike 26 = .ok (.isub, 1) := by decide +kernel
theorem dX0_readLike_27 : decode cX0_readLike 27 = .ok (.invokevirtual 140, 3) := by decide +kernel
theorem dX0_readLike_30 : decode cX0_readLike 30 = .ok (.invokevirtual 173, 3) := by decide +kernel
theorem dX0_readLike_33 : decode cX0_readLike 33 = .ok (.iinc 5 1, 3) := by decide +kernel
theorem dX0_readLike_36 : decode cX0_readLike 36 = .ok (.goto (-33), 3) := by decide +kernel
theorem dX0_readLike_39 : decode cX0_readLike 39 = .ok (.return_, 1) := by decide +kernel
theorem dX0_readUnlike_0 : decode cX0_readUnlike 0 = .ok (.iconst 0, 1) := by decide +kernel
theorem dX0_readUnlike_1 : decode cX0_readUnlike 1 = .ok (.istore 4, 2) := by decide +kernel
theorem dX0_readUnlike_3 : decode cX0_readUnlike 3 = .ok (.iconst 0, 1) := by decide +kernel
theorem dX0_readUnlike_4 : decode cX0_readUnlike 4 = .ok (.istore 5, 2) := by decide +kernel
theorem dX0_readUnlike_6 : decode cX0_readUnlike 6 = .ok (.iconst 0, 1) := by decide +kernel
theorem dX0_readUnlike_7 : decode cX0_readUnlike 7 = .ok (.istore 6, 2) := by decide +kernel
theorem dX0_readUnlike_9 : decode cX0_readUnlike 9 = .ok (.iload 6, 2) := by decide +kernel
theorem dX0_readUnlike_11 : decode cX0_readUnlike 11 = .ok (.iload_n 3, 1) := by decide +kernel
theorem dX0_readUnlike_12 : decode cX0_readUnlike 12 = .ok (.if_icmp .ge 58, 3) := by decide +kernel
theorem dX0_readUnlike_15 : decode cX0_readUnlike 15 = .ok (.aload_n 0, 1) := by decide +kernel
theorem dX0_readUnlike_16 : decode cX0_readUnlike 16 = .ok (.getfield 72, 3) := by decide +kernel
theorem dX0_readUnlike_19 : decode cX0_readUnlike 19 = .ok (.bipush 8, 2) := by decide +kernel
theorem dX0_readUnlike_21 : decode cX0_readUnlike 21 = .ok (.if_icmp .eq 10, 3) := by decide +kernel
theorem dX0_readUnlike_24 : decode cX0_readUnlike 24 = .ok (.iload 6, 2) := by decide +kernel
theorem dX0_readUnlike_26 : decode cX0_readUnlike 26 = .ok (.iconst 1, 1) := by decide +kernel
theorem dX0_readUnlike_27 : decode cX0_readUnlike 27 = .ok (.iand, 1) := by decide +kernel
theorem dX0_readUnlike_28 : decode cX0_readUnlike 28 = .ok (.ifCond .ne 12, 3) := by decide +kernel
theorem dX0_readUnlike_31 : decode cX0_readUnlike 31 = .ok (.aload_n 1, 1) := by decide +kernel
theorem dX0_readUnlike_32 : decode cX0_readUnlike 32 = .ok (.invokevirtual 112, 3) := by decide +kernel
theorem dX0_readUnlike_35 : decode cX0_readUnlike 35 = .ok (.istore 5, 2) := by decide +kernel
theorem dX0_readUnlike_37 : decode cX0_readUnlike 37 = .ok (.iinc 4 1, 3) := by decide +kernel
theorem dX0_readUnlike_40 : decode cX0_readUnlike 40 = .ok (.aload_n 0, 1) := by decide +kernel
theorem dX0_readUnlike_41 : decode cX0_readUnlike 41 = .ok (.aload_n 2, 1) := by decide +kernel
theorem dX0_readUnlike_42 : decode cX0_readUnlike 42 = .ok (.aload_n 0, 1) := by decide +kernel
theorem dX0_readUnlike_43 : decode cX0_readUnlike 43 = .ok (.aload_n 1, 1) := by decide +kernel
theorem dX0_readUnlike_44 : decode cX0_readUnlike 44 = .ok (.aload_n 0, 1) := by decide +kernel
theorem dX0_readUnlike_45 : decode cX0_readUnlike 45 = .ok (.iload 5, 2) := by decide +kernel
theorem dX0_readUnlike_47 : decode cX0_readUnlike 47 = .ok (.iload 6, 2) := by decide +kernel
theorem dX0_readUnlike_49 : decode cX0_readUnlike 49 = .ok (.invokevirtual 170, 3) := by decide +kernel
theorem dX0_readUnlike_52 : decode cX0_readUnlike 52 = .ok (.aload_n 1, 1) := by decide +kernel
theorem dX0_readUnlike_53 : decode cX0_readUnlike 53 = .ok (.getfield 57, 3) := by decide +kernel
theorem dX0_readUnlike_56 : decode cX0_readUnlike 56 = .ok (.iconst 1, 1) := by decide +kernel
theorem dX0_readUnlike_57 : decode cX0_readUnlike 57 = .ok (.isub, 1) := by decide +kernel
theorem dX0_readUnlike_58 : decode cX0_readUnlike 58 = .ok (.invokevirtual 140, 3) := by decide +kernel
theorem dX0_readUnlike_61 : decode cX0_readUnlike 61 = .ok (.invokevirtual 173, 3) := by decide +kernel
theorem dX0_readUnlike_64 : decode cX0_readUnlike 64 = .ok (.iinc 6 1, 3) := by decide +kernel
theorem dX0_readUnlike_67 : decode cX0_readUnlike 67 = .ok (.goto (-58), 3) := by decide +kernel
theorem dX0_readUnlike_70 : decode cX0_readUnlike 70 = .ok (.aload_n 1, 1) := by decide +kernel
theorem dX0_readUnlike_71 : decode cX0_readUnlike 71 = .ok (.iload 4, 2) := by decide +kernel
theorem dX0_readUnlike_73 : decode cX0_readUnlike 73 = .ok (.iconst 1, 1) := by decide +kernel
theorem dX0_readUnlike_74 : decode cX0_readUnlike 74 = .ok (.iand, 1) := by decide +kernel
theorem dX0_readUnlike_75 : decode cX0_readUnlike 75 = .ok (.invokevirtual 44, 3) := by decide +kernel
theorem dX0_readUnlike_78 : decode cX0_readUnlike 78 = .ok (.return_, 1) := by decide +kernel
theorem dX0_part_0 : decode cX0_part 0 = .ok (.aload_n 0, 1) := by decide +kernel
theorem dX0_part_1 : decode cX0_part 1 = .ok (.getfield 72, 3) := by decide +kernel
theorem dX0_part_4 : decode cX0_part 4 = .ok (.bipush 8, 2) := by decide +kernel
theorem dX0_part_6 : decode cX0_part 6 = .ok (.if_icmp .ne 5, 3) := by decide +kernel
theorem dX0_part_9 : decode cX0_part 9 = .ok (.iload_n 1, 1) := by decide +kernel
theorem dX0_part_10 : decode cX0_part 10 = .ok (.ireturn, 1) := by decide +kernel
theorem dX0_part_11 : decode cX0_part 11 = .ok (.iload_n 2, 1) := by decide +kernel
theorem dX0_part_12 : decode cX0_part 12 = .ok (.iconst 1, 1) := by decide +kernel
theorem dX0_part_13 : decode cX0_part 13 = .ok (.iand, 1) := by decide +kernel
theorem dX0_part_14 : decode cX0_part 14 = .ok (.ifCond .ne 9, 3) := by decide +kernel
theorem dX0_part_17 : decode cX0_part 17 = .ok (.iload_n 1, 1) := by decide +kernel
theorem dX0_part_18 : decode cX0_part 18 = .ok (.iconst 4, 1) := by decide +kernel
theorem dX0_part_19 : decode cX0_part 19 = .ok (.ishr, 1) := by decide +kernel
theorem dX0_part_20 : decode cX0_part 20 = .ok (.goto 7, 3) := by decide +kernel
theorem dX0_part_23 : decode cX0_part 23 = .ok (.iload_n 1, 1) := by decide +kernel
theorem dX0_part_24 : decode cX0_part 24 = .ok (.bipush 15, 2) := by decide +kernel
theorem dX0_part_26 : decode cX0_part 26 = .ok (.iand, 1) := by decide +kernel
theorem dX0_part_27 : decode cX0_part 27 = .ok (.ireturn, 1) := by decide +kernel
theorem dX0_paint_0 : decode cX0_paint 0 = .ok (.aload_n 1, 1) := by decide +kernel
theorem dX0_paint_1 : decode cX0_paint 1 = .ok (.aload_n 1, 1) := by decide +kernel
theorem dX0_paint_2 : decode cX0_paint 2 = .ok (.getfield 124, 3) := by decide +kernel
theorem dX0_paint_5 : decode cX0_paint 5 = .ok (.iconst 1, 1) := by decide +kernel
theorem dX0_paint_6 : decode cX0_paint 6 = .ok (.isub, 1) := by decide +kernel
theorem dX0_paint_7 : decode cX0_paint 7 = .ok (.aload_n 0, 1) := by decide +kernel
theorem dX0_paint_8 : decode cX0_paint 8 = .ok (.getfield 153, 3) := by decide +kernel
theorem dX0_paint_11 : decode cX0_paint 11 = .ok (.isub, 1) := by decide +kernel
theorem dX0_paint_12 : decode cX0_paint 12 = .ok (.aload_n 1, 1) := by decide +kernel
theorem dX0_paint_13 : decode cX0_paint 13 = .ok (.getfield 119, 3) := by decide +kernel
theorem dX0_paint_16 : decode cX0_paint 16 = .ok (.imul, 1) := by decide +kernel
theorem dX0_paint_17 : decode cX0_paint 17 = .ok (.aload_n 0, 1) := by decide +kernel
theorem dX0_paint_18 : decode cX0_paint 18 = .ok (.getfield 150, 3) := by decide +kernel
theorem dX0_paint_21 : decode cX0_paint 21 = .ok (.iadd, 1) := by decide +kernel
theorem dX0_paint_22 : decode cX0_paint 22 = .ok (.iload_n 2, 1) := by decide +kernel
theorem dX0_paint_23 : decode cX0_paint 23 = .ok (.invokevirtual 134, 3) := by decide +kernel
theorem dX0_paint_26 : decode cX0_paint 26 = .ok (.aload_n 0, 1) := by decide +kernel
theorem dX0_paint_27 : decode cX0_paint 27 = .ok (.dup, 1) := by decide +kernel
theorem dX0_paint_28 : decode cX0_paint 28 = .ok (.getfield 150, 3) := by decide +kernel
theorem dX0_paint_31 : decode cX0_paint 31 = .ok (.iconst 1, 1) := by decide +kernel
theorem dX0_paint_32 : decode cX0_paint 32 = .ok (.iadd, 1) := by decide +kernel
theorem dX0_paint_33 : decode cX0_paint 33 = .ok (.putfield 150, 3) := by decide +kernel
theorem dX0_paint_36 : decode cX0_paint 36 = .ok (.return_, 1) := by decide +kernel
theorem dX0_encode_0 : decode cX0_encode 0 = .ok (.iload_n 2, 1) := by decide +kernel
theorem dX0_encode_1 : decode cX0_encode 1 = .ok (.bipush 7, 2) := by decide +kernel
theorem dX0_encode_3 : decode cX0_encode 3 = .ok (.if_icmp .eq 7, 3) := by decide +kernel
theorem dX0_encode_6 : decode cX0_encode 6 = .ok (.iconst 1, 1) := by decide +kernel
theorem dX0_encode_7 : decode cX0_encode 7 = .ok (.goto 4, 3) := by decide +kernel
theorem dX0_encode_10 : decode cX0_encode 10 = .ok (.iconst 0, 1) := by decide +kernel
theorem dX0_encode_11 : decode cX0_encode 11 = .ok (.istore 4, 2) := by decide +kernel
theorem dX0_encode_13 : decode cX0_encode 13 = .ok (.iconst 0, 1) := by decide +kernel
theorem dX0_encode_14 : decode cX0_encode 14 = .ok (.istore 5, 2) := by decide +kernel
theorem dX0_encode_16 : decode cX0_encode 16 = .ok (.iload 4, 2) := by decide +kernel
theorem dX0_encode_18 : decode cX0_encode 18 = .ok (.ifCond .eq 20, 3) := by decide +kernel
theorem dX0_encode_21 : decode cX0_encode 21 = .ok (.aload_n 0, 1) := by decide +kernel
theorem dX0_encode_22 : decode cX0_encode 22 = .ok (.getfield 15, 3) := by decide +kernel
theorem dX0_encode_25 : decode cX0_encode 25 = .ok (.aload_n 1, 1) := by decide +kernel
theorem dX0_encode_26 : decode cX0_encode 26 = .ok (.invokevirtual 177, 3) := by decide +kernel
theorem dX0_encode_29 : decode cX0_encode 29 = .ok (.aload_n 0, 1) := by decide +kernel
theorem dX0_encode_30 : decode cX0_encode 30 = .ok (.getfield 15, 3) := by decide +kernel
theorem dX0_encode_33 : decode cX0_encode 33 = .ok (.getfield 183, 3) := by decide +kernel
theorem dX0_encode_36 : decode cX0_encode 36 = .ok (.istore 5, 2) := by decide +kernel
theorem dX0_encode_38 : decode cX0_encode 38 = .ok (.aload_n 1, 1) := by decide +kernel
theorem dX0_encode_39 : decode cX0_encode 39 = .ok (.iload_n 2, 1) := by decide +kernel
theorem dX0_encode_40 : decode cX0_encode 40 = .ok (.iload 5, 2) := by decide +kernel
theorem dX0_encode_42 : decode cX0_encode 42 = .ok (.aload_n 3, 1) := by decide +kernel
theorem dX0_encode_43 : decode cX0_encode 43 = .ok (.invokestatic 186, 3) := by decide +kernel
theorem dX0_encode_46 : decode cX0_encode 46 = .ok (.iconst 0, 1) := by decide +kernel
theorem dX0_encode_47 : decode cX0_encode 47 = .ok (.istore 6, 2) := by decide +kernel
theorem dX0_encode_49 : decode cX0_encode 49 = .ok (.iload 6, 2) := by decide +kernel
theorem dX0_encode_51 : decode cX0_encode 51 = .ok (.iload 5, 2) := by decide +kernel
theorem dX0_encode_53 : decode cX0_encode 53 = .ok (.if_icmp .ge 27, 3) := by decide +kernel
theorem dX0_encode_56 : decode cX0_encode 56 = .ok (.aload_n 0, 1) := by decide +kernel
theorem dX0_encode_57 : decode cX0_encode 57 = .ok (.getfield 15, 3) := by decide +kernel
theorem dX0_encode_60 : decode cX0_encode 60 = .ok (.iload 6, 2) := by decide +kernel
theorem dX0_encode_62 : decode cX0_encode 62 = .ok (.invokevirtual 190, 3) := by decide +kernel
theorem dX0_encode_65 : decode cX0_encode 65 = .ok (.aload_n 3, 1) := by decide +kernel
theorem dX0_encode_66 : decode cX0_encode 66 = .ok (.invokestatic 194, 3) := by decide +kernel
theorem dX0_encode_69 : decode cX0_encode 69 = .ok (.aload_n 3, 1) := by decide +kernel
theorem dX0_encode_70 : decode cX0_encode 70 = .ok (.iconst 0, 1) := by decide +kernel
theorem dX0_encode_71 : decode cX0_encode 71 = .ok (.invokevirtual 198, 3) := by decide +kernel
theorem dX0_encode_74 : decode cX0_encode 74 = .ok (.iinc 6 1, 3) := by decide +kernel
theorem dX0_encode_77 : decode cX0_encode 77 = .ok (.goto (-28), 3) := by decide +kernel
theorem dX0_encode_80 : decode cX0_encode 80 = .ok (.aload_n 1, 1) := by decide +kernel
theorem dX0_encode_81 : decode cX0_encode 81 = .ok (.getfield 124, 3) := by decide +kernel
theorem dX0_encode_84 : decode cX0_encode 84 = .ok (.iconst 1, 1) := by decide +kernel
theorem dX0_encode_85 : decode cX0_encode 85 = .ok (.isub, 1) := by decide +kernel
theorem dX0_encode_86 : decode cX0_encode 86 = .ok (.istore 6, 2) := by decide +kernel
theorem dX0_encode_88 : decode cX0_encode 88 = .ok (.iload 6, 2) := by decide +kernel
theorem dX0_encode_90 : decode cX0_encode 90 = .ok (.ifCond .lt 36, 3) := by decide +kernel
theorem dX0_encode_93 : decode cX0_encode 93 = .ok (.iload_n 2, 1) := by decide +kernel
theorem dX0_encode_94 : decode cX0_encode 94 = .ok (.bipush 9, 2) := by decide +kernel
theorem dX0_encode_96 : decode cX0_encode 96 = .ok (.if_icmp .ne 14, 3) := by decide +kernel
theorem dX0_encode_99 : decode cX0_encode 99 = .ok (.aload_n 0, 1) := by decide +kernel
theorem dX0_encode_100 : decode cX0_encode 100 = .ok (.aload_n 1, 1) := by decide +kernel
theorem dX0_encode_101 : decode cX0_encode 101 = .ok (.iload 6, 2) := by decide +kernel
theorem dX0_encode_103 : decode cX0_encode 103 = .ok (.aload_n 3, 1) := by decide +kernel
theorem dX0_encode_104 : decode cX0_encode 104 = .ok (.invokevirtual 203, 3) := by decide +kernel
theorem dX0_encode_107 : decode cX0_encode 107 = .ok (.goto 13, 3) := by decide +kernel
theorem dX0_encode_110 : decode cX0_encode 110 = .ok (.aload_n 0, 1) := by decide +kernel
theorem dX0_encode_111 : decode cX0_encode 111 = .ok (.aload_n 1, 1) := by decide +kernel
theorem dX0_encode_112 : decode cX0_encode 112 = .ok (.iload 6, 2) := by decide +kernel
theorem dX0_encode_114 : decode cX0_encode 114 = .ok (.iload 4, 2) := by decide +kernel
theorem dX0_encode_116 : decode cX0_encode 116 = .ok (.aload_n 3, 1) := by decide +kernel
theorem dX0_encode_117 : decode cX0_encode 117 = .ok (.invokevirtual 207, 3) := by decide +kernel
theorem dX0_encode_120 : decode cX0_encode 120 = .ok (.iinc 6 (-1), 3) := by decide +kernel
theorem dX0_encode_123 : decode cX0_encode 123 = .ok (.goto (-35), 3) := by decide +kernel
theorem dX0_encode_126 : decode cX0_encode 126 = .ok (.aload_n 3, 1) := by decide +kernel
theorem dX0_encode_127 : decode cX0_encode 127 = .ok (.iconst 2, 1) := by decide +kernel
theorem dX0_encode_128 : decode cX0_encode 128 = .ok (.aload_n 3, 1) := by decide +kernel
theorem dX0_encode_129 : decode cX0_encode 129 = .ok (.getfield 211, 3) := by decide +kernel
theorem dX0_encode_132 : decode cX0_encode 132 = .ok (.invokevirtual 212, 3) := by decide +kernel
theorem dX0_encode_135 : decode cX0_encode 135 = .ok (.aload_n 3, 1) := by decide +kernel
theorem dX0_encode_136 : decode cX0_encode 136 = .ok (.bipush 34, 2) := by decide +kernel
theorem dX0_encode_138 : decode cX0_encode 138 = .ok (.aload_n 3, 1) := by decide +kernel
theorem dX0_encode_139 : decode cX0_encode 139 = .ok (.getfield 211, 3) := by decide +kernel
theorem dX0_encode_142 : decode cX0_encode 142 = .ok (.bipush 54, 2) := by decide +kernel
theorem dX0_encode_144 : decode cX0_encode 144 = .ok (.isub, 1) := by decide +kernel
theorem dX0_encode_145 : decode cX0_encode 145 = .ok (.iconst 4, 1) := by decide +kernel
theorem dX0_encode_146 : decode cX0_encode 146 = .ok (.iload 5, 2) := by decide +kernel
theorem dX0_encode_148 : decode cX0_encode 148 = .ok (.imul, 1) := by decide +kernel
theorem dX0_encode_149 : decode cX0_encode 149 = .ok (.isub, 1) := by decide +kernel
theorem dX0_encode_150 : decode cX0_encode 150 = .ok (.invokevirtual 212, 3) := by decide +kernel
theorem dX0_encode_153 : decode cX0_encode 153 = .ok (.return_, 1) := by decide +kernel
theorem dX0_writeHeader_0 : decode cX0_writeHeader 0 = .ok (.aload_n 3, 1) := by decide +kernel
theorem dX0_writeHeader_1 : decode cX0_writeHeader 1 = .ok (.bipush 66, 2) := by decide +kernel
theorem dX0_writeHeader_3 : decode cX0_writeHeader 3 = .ok (.invokevirtual 198, 3) := by decide +kernel
theorem dX0_writeHeader_6 : decode cX0_writeHeader 6 = .ok (.aload_n 3, 1) := by decide +kernel
theorem dX0_writeHeader_7 : decode cX0_writeHeader 7 = .ok (.bipush 77, 2) := by decide +kernel
theorem dX0_writeHeader_9 : decode cX0_writeHeader 9 = .ok (.invokevirtual 198, 3) := by decide +kernel
theorem dX0_writeHeader_12 : decode cX0_writeHeader 12 = .ok (.aload_n 3, 1) := by decide +kernel
theorem dX0_writeHeader_13 : decode cX0_writeHeader 13 = .ok (.bipush 8, 2) := by decide +kernel
theorem dX0_writeHeader_15 : decode cX0_writeHeader 15 = .ok (.invokevirtual 215, 3) := by decide +kernel
theorem dX0_writeHeader_18 : decode cX0_writeHeader 18 = .ok (.aload_n 3, 1) := by decide +kernel
theorem dX0_writeHeader_19 : decode cX0_writeHeader 19 = .ok (.bipush 54, 2) := by decide +kernel
theorem dX0_writeHeader_21 : decode cX0_writeHeader 21 = .ok (.iconst 4, 1) := by decide +kernel
theorem dX0_writeHeader_22 : decode cX0_writeHeader 22 = .ok (.iload_n 2, 1) := by decide +kernel
theorem dX0_writeHeader_23 : decode cX0_writeHeader 23 = .ok (.imul, 1) := by decide +kernel
theorem dX0_writeHeader_24 : decode cX0_writeHeader 24 = .ok (.iadd, 1) := by decide +kernel
theorem dX0_writeHeader_25 : decode cX0_writeHeader 25 = .ok (.invokevirtual 218, 3) := by decide +kernel
theorem dX0_writeHeader_28 : decode cX0_writeHeader 28 = .ok (.aload_n 3, 1) := by decide +kernel
theorem dX0_writeHeader_29 : decode cX0_writeHeader 29 = .ok (.bipush 40, 2) := by decide +kernel
theorem dX0_writeHeader_31 : decode cX0_writeHeader 31 = .ok (.invokevirtual 218, 3) := by decide +kernel
theorem dX0_writeHeader_34 : decode cX0_writeHeader 34 = .ok (.aload_n 3, 1) := by decide +kernel
theorem dX0_writeHeader_35 : decode cX0_writeHeader 35 = .ok (.aload_n 0, 1) := by decide +kernel
theorem dX0_writeHeader_36 : decode cX0_writeHeader 36 = .ok (.getfield 119, 3) := by decide +kernel
theorem dX0_writeHeader_39 : decode cX0_writeHeader 39 = .ok (.invokevirtual 218, 3) := by decide +kernel
theorem dX0_writeHeader_42 : decode cX0_writeHeader 42 = .ok (.aload_n 3, 1) := by decide +kernel
theorem dX0_writeHeader_43 : decode cX0_writeHeader 43 = .ok (.aload_n 0, 1) := by decide +kernel
theorem dX0_writeHeader_44 : decode cX0_writeHeader 44 = .ok (.getfield 124, 3) := by decide +kernel
theorem dX0_writeHeader_47 : decode cX0_writeHeader 47 = .ok (.invokevirtual 218, 3) := by decide +kernel
theorem dX0_writeHeader_50 : decode cX0_writeHeader 50 = .ok (.aload_n 3, 1) := by decide +kernel
theorem dX0_writeHeader_51 : decode cX0_writeHeader 51 = .ok (.iconst 1, 1) := by decide +kernel
theorem dX0_writeHeader_52 : decode cX0_writeHeader 52 = .ok (.invokevirtual 221, 3) := by decide +kernel
theorem dX0_writeHeader_55 : decode cX0_writeHeader 55 = .ok (.aload_n 3, 1) := by decide +kernel
theorem dX0_writeHeader_56 : decode cX0_writeHeader 56 = .ok (.iload_n 1, 1) := by decide +kernel
theorem dX0_writeHeader_57 : decode cX0_writeHeader 57 = .ok (.bipush 7, 2) := by decide +kernel
theorem dX0_writeHeader_59 : decode cX0_writeHeader 59 = .ok (.if_icmp .ne 8, 3) := by decide +kernel
theorem dX0_writeHeader_62 : decode cX0_writeHeader 62 = .ok (.bipush 24, 2) := by decide +kernel
theorem dX0_writeHeader_64 : decode cX0_writeHeader 64 = .ok (.goto 5, 3) := by decide +kernel
theorem dX0_writeHeader_67 : decode cX0_writeHeader 67 = .ok (.bipush 8, 2) := by decide +kernel
theorem dX0_writeHeader_69 : decode cX0_writeHeader 69 = .ok (.invokevirtual 221, 3) := by decide +kernel
theorem dX0_writeHeader_72 : decode cX0_writeHeader 72 = .ok (.aload_n 3, 1) := by decide +kernel
theorem dX0_writeHeader_73 : decode cX0_writeHeader 73 = .ok (.iload_n 1, 1) := by decide +kernel
theorem dX0_writeHeader_74 : decode cX0_writeHeader 74 = .ok (.bipush 9, 2) := by decide +kernel
theorem dX0_writeHeader_76 : decode cX0_writeHeader 76 = .ok (.if_icmp .ne 7, 3) := by decide +kernel
theorem dX0_writeHeader_79 : decode cX0_writeHeader 79 = .ok (.iconst 1, 1) := by decide +kernel
theorem dX0_writeHeader_80 : decode cX0_writeHeader 80 = .ok (.goto 4, 3) := by decide +kernel
theorem dX0_writeHeader_83 : decode cX0_writeHeader 83 = .ok (.iconst 0, 1) := by decide +kernel
theorem dX0_writeHeader_84 : decode cX0_writeHeader 84 = .ok (.invokevirtual 218, 3) := by decide +kernel
theorem dX0_writeHeader_87 : decode cX0_writeHeader 87 = .ok (.aload_n 3, 1) := by decide +kernel
theorem dX0_writeHeader_88 : decode cX0_writeHeader 88 = .ok (.iconst 0, 1) := by decide +kernel
theorem dX0_writeHeader_89 : decode cX0_writeHeader 89 = .ok (.invokevirtual 218, 3) := by decide +kernel
theorem dX0_writeHeader_92 : decode cX0_writeHeader 92 = .ok (.aload_n 3, 1) := by decide +kernel
theorem dX0_writeHeader_93 : decode cX0_writeHeader 93 = .ok (.sipush 2835, 3) := by decide +kernel
theorem dX0_writeHeader_96 : decode cX0_writeHeader 96 = .ok (.invokevirtual 218, 3) := by decide +kernel
theorem dX0_writeHeader_99 : decode cX0_writeHeader 99 = .ok (.aload_n 3, 1) := by decide +kernel
theorem dX0_writeHeader_100 : decode cX0_writeHeader 100 = .ok (.sipush 2835, 3) := by decide +kernel
theorem dX0_writeHeader_103 : decode cX0_writeHeader 103 = .ok (.invokevirtual 218, 3) := by decide +kernel
theorem dX0_writeHeader_106 : decode cX0_writeHeader 106 = .ok (.aload_n 3, 1) := by decide +kernel
theorem dX0_writeHeader_107 : decode cX0_writeHeader 107 = .ok (.iload_n 2, 1) := by decide +kernel
theorem dX0_writeHeader_108 : decode cX0_writeHeader 108 = .ok (.invokevirtual 218, 3) := by decide +kernel
theorem dX0_writeHeader_111 : decode cX0_writeHeader 111 = .ok (.aload_n 3, 1) := by decide +kernel
theorem dX0_writeHeader_112 : decode cX0_writeHeader 112 = .ok (.iconst 0, 1) := by decide +kernel
theorem dX0_writeHeader_113 : decode cX0_writeHeader 113 = .ok (.invokevirtual 218, 3) := by decide +kernel
theorem dX0_writeHeader_116 : decode cX0_writeHeader 116 = .ok (.return_, 1) := by decide +kernel
theorem dX0_writeBlueFirst_0 : decode cX0_writeBlueFirst 0 = .ok (.aload_n 1, 1) := by decide +kernel
theorem dX0_writeBlueFirst_1 : decode cX0_writeBlueFirst 1 = .ok (.iload_n 0, 1) := by decide +kernel
theorem dX0_writeBlueFirst_2 : decode cX0_writeBlueFirst 2 = .ok (.invokestatic 224, 3) := by decide +kernel
theorem dX0_writeBlueFirst_5 : decode cX0_writeBlueFirst 5 = .ok (.invokevirtual 198, 3) := by decide +kernel
theorem dX0_writeBlueFirst_8 : decode cX0_writeBlueFirst 8 = .ok (.aload_n 1, 1) := by decide +kernel
theorem dX0_writeBlueFirst_9 : decode cX0_writeBlueFirst 9 = .ok (.iload_n 0, 1) := by decide +kernel
theorem dX0_writeBlueFirst_10 : decode cX0_writeBlueFirst 10 = .ok (.invokestatic 227, 3) := by decide +kernel
theorem dX0_writeBlueFirst_13 : decode cX0_writeBlueFirst 13 = .ok (.invokevirtual 198, 3) := by decide +kernel
theorem dX0_writeBlueFirst_16 : decode cX0_writeBlueFirst 16 = .ok (.aload_n 1, 1) := by decide +kernel
theorem dX0_writeBlueFirst_17 : decode cX0_writeBlueFirst 17 = .ok (.iload_n 0, 1) := by decide +kernel
theorem dX0_writeBlueFirst_18 : decode cX0_writeBlueFirst 18 = .ok (.invokestatic 230, 3) := by decide +kernel
theorem dX0_writeBlueFirst_21 : decode cX0_writeBlueFirst 21 = .ok (.invokevirtual 198, 3) := by decide +kernel
theorem dX0_writeBlueFirst_24 : decode cX0_writeBlueFirst 24 = .ok (.return_, 1) := by decide +kernel
theorem dX0_writeRow_0 : decode cX0_writeRow 0 = .ok (.iconst 0, 1) := by decide +kernel
theorem dX0_writeRow_1 : decode cX0_writeRow 1 = .ok (.istore 5, 2) := by decide +kernel
theorem dX0_writeRow_3 : decode cX0_writeRow 3 = .ok (.iload 5, 2) := by decide +kernel
theorem dX0_writeRow_5 : decode cX0_writeRow 5 = .ok (.aload_n 1, 1) := by decide +kernel
theorem dX0_writeRow_6 : decode cX0_writeRow 6 = .ok (.getfield 119, 3) := by decide +kernel
theorem dX0_writeRow_9 : decode cX0_writeRow 9 = .ok (.if_icmp .ge 52, 3) := by decide +kernel
theorem dX0_writeRow_12 : decode cX0_writeRow 12 = .ok (.aload_n 1, 1) := by decide +kernel
theorem dX0_writeRow_13 : decode cX0_writeRow 13 = .ok (.iload_n 2, 1) := by decide +kernel
theorem dX0_writeRow_14 : decode cX0_writeRow 14 = .ok (.aload_n 1, 1) := by decide +kernel
theorem dX0_writeRow_15 : decode cX0_writeRow 15 = .ok (.getfield 119, 3) := by decide +kernel
theorem dX0_writeRow_18 : decode cX0_writeRow 18 = .ok (.imul, 1) := by decide +kernel
theorem dX0_writeRow_19 : decode cX0_writeRow 19 = .ok (.iload 5, 2) := by decide +kernel
theorem dX0_writeRow_21 : decode cX0_writeRow 21 = .ok (.iadd, 1) := by decide +kernel
theorem dX0_writeRow_22 : decode cX0_writeRow 22 = .ok (.invokevirtual 233, 3) := by decide +kernel
theorem dX0_writeRow_25 : decode cX0_writeRow 25 = .ok (.istore 6, 2) := by decide +kernel
theorem dX0_writeRow_27 : decode cX0_writeRow 27 = .ok (.iload_n 3, 1) := by decide +kernel
theorem dX0_writeRow_28 : decode cX0_writeRow 28 = .ok (.ifCond .eq 20, 3) := by decide +kernel
theorem dX0_writeRow_31 : decode cX0_writeRow 31 = .ok (.aload 4, 2) := by decide +kernel
theorem dX0_writeRow_33 : decode cX0_writeRow 33 = .ok (.aload_n 0, 1) := by decide +kernel
theorem dX0_writeRow_34 : decode cX0_writeRow 34 = .ok (.getfield 15, 3) := by decide +kernel
theorem dX0_writeRow_37 : decode cX0_writeRow 37 = .ok (.iload 6, 2) := by decide +kernel
theorem dX0_writeRow_39 : decode cX0_writeRow 39 = .ok (.invokevirtual 234, 3) := by decide +kernel
theorem dX0_writeRow_42 : decode cX0_writeRow 42 = .ok (.invokevirtual 198, 3) := by decide +kernel
theorem dX0_writeRow_45 : decode cX0_writeRow 45 = .ok (.goto 10, 3) := by decide +kernel
theorem dX0_writeRow_48 : decode cX0_writeRow 48 = .ok (.iload 6, 2) := by decide +kernel
theorem dX0_writeRow_50 : decode cX0_writeRow 50 = .ok (.aload 4, 2) := by decide +kernel
theorem dX0_writeRow_52 : decode cX0_writeRow 52 = .ok (.invokestatic 194, 3) := by decide +kernel
theorem dX0_writeRow_55 : decode cX0_writeRow 55 = .ok (.iinc 5 1, 3) := by decide +kernel
theorem dX0_writeRow_58 : decode cX0_writeRow 58 = .ok (.goto (-55), 3) := by decide +kernel
theorem dX0_writeRow_61 : decode cX0_writeRow 61 = .ok (.aload 4, 2) := by decide +kernel
theorem dX0_writeRow_63 : decode cX0_writeRow 63 = .ok (.aload_n 1, 1) := by decide +kernel
theorem dX0_writeRow_64 : decode cX0_writeRow 64 = .ok (.getfield 119, 3) := by decide +kernel
theorem dX0_writeRow_67 : decode cX0_writeRow 67 = .ok (.ineg, 1) := by decide +kernel
theorem dX0_writeRow_68 : decode cX0_writeRow 68 = .ok (.iload_n 3, 1) := by decide +kernel
theorem dX0_writeRow_69 : decode cX0_writeRow 69 = .ok (.ifCond .eq 7, 3) := by decide +kernel
theorem dX0_writeRow_72 : decode cX0_writeRow 72 = .ok (.iconst 1, 1) := by decide +kernel
theorem dX0_writeRow_73 : decode cX0_writeRow 73 = .ok (.goto 4, 3) := by decide +kernel
theorem dX0_writeRow_76 : decode cX0_writeRow 76 = .ok (.iconst 3, 1) := by decide +kernel
theorem dX0_writeRow_77 : decode cX0_writeRow 77 = .ok (.imul, 1) := by decide +kernel
theorem dX0_writeRow_78 : decode cX0_writeRow 78 = .ok (.iconst 3, 1) := by decide +kernel
theorem dX0_writeRow_79 : decode cX0_writeRow 79 = .ok (.iand, 1) := by decide +kernel
theorem dX0_writeRow_80 : decode cX0_writeRow 80 = .ok (.invokevirtual 215, 3) := by decide +kernel
theorem dX0_writeRow_83 : decode cX0_writeRow 83 = .ok (.return_, 1) := by decide +kernel
theorem dX0_writeRuns_0 : decode cX0_writeRuns 0 = .ok (.iload_n 2, 1) := by decide +kernel
theorem dX0_writeRuns_1 : decode cX0_writeRuns 1 = .ok (.aload_n 1, 1) := by decide +kernel
theorem dX0_writeRuns_2 : decode cX0_writeRuns 2 = .ok (.getfield 119, 3) := by decide +kernel
theorem dX0_writeRuns_5 : decode cX0_writeRuns 5 = .ok (.imul, 1) := by decide +kernel
theorem dX0_writeRuns_6 : decode cX0_writeRuns 6 = .ok (.istore 4, 2) := by decide +kernel
theorem dX0_writeRuns_8 : decode cX0_writeRuns 8 = .ok (.iconst 0, 1) := by decide +kernel
theorem dX0_writeRuns_9 : decode cX0_writeRuns 9 = .ok (.istore 5, 2) := by decide +kernel
theorem dX0_writeRuns_11 : decode cX0_writeRuns 11 = .ok (.iconst 0, 1) := by decide +kernel
theorem dX0_writeRuns_12 : decode cX0_writeRuns 12 = .ok (.istore 6, 2) := by decide +kernel
theorem dX0_writeRuns_14 : decode cX0_writeRuns 14 = .ok (.iload 6, 2) := by decide +kernel
theorem dX0_writeRuns_16 : decode cX0_writeRuns 16 = .ok (.aload_n 1, 1) := by decide +kernel
theorem dX0_writeRuns_17 : decode cX0_writeRuns 17 = .ok (.getfield 119, 3) := by decide +kernel
theorem dX0_writeRuns_20 : decode cX0_writeRuns 20 = .ok (.if_icmp .ge 92, 3) := by decide +kernel
theorem dX0_writeRuns_23 : decode cX0_writeRuns 23 = .ok (.aload_n 1, 1) := by decide +kernel
theorem dX0_writeRuns_24 : decode cX0_writeRuns 24 = .ok (.iload 4, 2) := by decide +kernel
theorem dX0_writeRuns_26 : decode cX0_writeRuns 26 = .ok (.iload 6, 2) := by decide +kernel
theorem dX0_writeRuns_28 : decode cX0_writeRuns 28 = .ok (.iadd, 1) := by decide +kernel
theorem dX0_writeRuns_29 : decode cX0_writeRuns 29 = .ok (.invokevirtual 233, 3) := by decide +kernel
theorem dX0_writeRuns_32 : decode cX0_writeRuns 32 = .ok (.istore 7, 2) := by decide +kernel
theorem dX0_writeRuns_34 : decode cX0_writeRuns 34 = .ok (.iinc 5 1, 3) := by decide +kernel
theorem dX0_writeRuns_37 : decode cX0_writeRuns 37 = .ok (.iload 6, 2) := by decide +kernel
theorem dX0_writeRuns_39 : decode cX0_writeRuns 39 = .ok (.aload_n 1, 1) := by decide +kernel
theorem dX0_writeRuns_40 : decode cX0_writeRuns 40 = .ok (.getfield 119, 3) := by decide +kernel
theorem dX0_writeRuns_43 : decode cX0_writeRuns 43 = .ok (.iconst 1, 1) := by decide +kernel
theorem dX0_writeRuns_44 : decode cX0_writeRuns 44 = .ok (.isub, 1) := by decide +kernel
theorem dX0_writeRuns_45 : decode cX0_writeRuns 45 = .ok (.if_icmp .eq 19, 3) := by decide +kernel
theorem dX0_writeRuns_48 : decode cX0_writeRuns 48 = .ok (.aload_n 1, 1) := by decide +kernel
theorem dX0_writeRuns_49 : decode cX0_writeRuns 49 = .ok (.iload 4, 2) := by decide +kernel
theorem dX0_writeRuns_51 : decode cX0_writeRuns 51 = .ok (.iload 6, 2) := by decide +kernel
theorem dX0_writeRuns_53 : decode cX0_writeRuns 53 = .ok (.iadd, 1) := by decide +kernel
theorem dX0_writeRuns_54 : decode cX0_writeRuns 54 = .ok (.iconst 1, 1) := by decide +kernel
theorem dX0_writeRuns_55 : decode cX0_writeRuns 55 = .ok (.iadd, 1) := by decide +kernel
theorem dX0_writeRuns_56 : decode cX0_writeRuns 56 = .ok (.invokevirtual 233, 3) := by decide +kernel
theorem dX0_writeRuns_59 : decode cX0_writeRuns 59 = .ok (.iload 7, 2) := by decide +kernel
theorem dX0_writeRuns_61 : decode cX0_writeRuns 61 = .ok (.if_icmp .eq 7, 3) := by decide +kernel
theorem dX0_writeRuns_64 : decode cX0_writeRuns 64 = .ok (.iconst 1, 1) := by decide +kernel
theorem dX0_writeRuns_65 : decode cX0_writeRuns 65 = .ok (.goto 4, 3) := by decide +kernel
theorem dX0_writeRuns_68 : decode cX0_writeRuns 68 = .ok (.iconst 0, 1) := by decide +kernel
theorem dX0_writeRuns_69 : decode cX0_writeRuns 69 = .ok (.istore 8, 2) := by decide +kernel
theorem dX0_writeRuns_71 : decode cX0_writeRuns 71 = .ok (.iload 8, 2) := by decide +kernel
theorem dX0_writeRuns_73 : decode cX0_writeRuns 73 = .ok (.ifCond .ne 11, 3) := by decide +kernel
theorem dX0_writeRuns_76 : decode cX0_writeRuns 76 = .ok (.iload 5, 2) := by decide +kernel
theorem dX0_writeRuns_78 : decode cX0_writeRuns 78 = .ok (.sipush 255, 3) := by decide +kernel
theorem dX0_writeRuns_81 : decode cX0_writeRuns 81 = .ok (.if_icmp .ne 25, 3) := by decide +kernel
theorem dX0_writeRuns_84 : decode cX0_writeRuns 84 = .ok (.aload_n 3, 1) := by decide +kernel
theorem dX0_writeRuns_85 : decode cX0_writeRuns 85 = .ok (.iload 5, 2) := by decide +kernel
theorem dX0_writeRuns_87 : decode cX0_writeRuns 87 = .ok (.invokevirtual 198, 3) := by decide +kernel
theorem dX0_writeRuns_90 : decode cX0_writeRuns 90 = .ok (.aload_n 3, 1) := by decide +kernel
theorem dX0_writeRuns_91 : decode cX0_writeRuns 91 = .ok (.aload_n 0, 1) := by decide +kernel
theorem dX0_writeRuns_92 : decode cX0_writeRuns 92 = .ok (.getfield 15, 3) := by decide +kernel
theorem dX0_writeRuns_95 : decode cX0_writeRuns 95 = .ok (.iload 7, 2) := by decide +kernel
theorem dX0_writeRuns_97 : decode cX0_writeRuns 97 = .ok (.invokevirtual 234, 3) := by decide +kernel
theorem dX0_writeRuns_100 : decode cX0_writeRuns 100 = .ok (.invokevirtual 198, 3) := by decide +kernel
theorem dX0_writeRuns_103 : decode cX0_writeRuns 103 = .ok (.iconst 0, 1) := by decide +kernel
theorem dX0_writeRuns_104 : decode cX0_writeRuns 104 = .ok (.istore 5, 2) := by decide +kernel
theorem dX0_writeRuns_106 : decode cX0_writeRuns 106 = .ok (.iinc 6 1, 3) := by decide +kernel
theorem dX0_writeRuns_109 : decode cX0_writeRuns 109 = .ok (.goto (-95), 3) := by decide +kernel
theorem dX0_writeRuns_112 : decode cX0_writeRuns 112 = .ok (.aload_n 3, 1) := by decide +kernel
theorem dX0_writeRuns_113 : decode cX0_writeRuns 113 = .ok (.iconst 0, 1) := by decide +kernel
theorem dX0_writeRuns_114 : decode cX0_writeRuns 114 = .ok (.invokevirtual 198, 3) := by decide +kernel
theorem dX0_writeRuns_117 : decode cX0_writeRuns 117 = .ok (.aload_n 3, 1) := by decide +kernel
theorem dX0_writeRuns_118 : decode cX0_writeRuns 118 = .ok (.iload_n 2, 1) := by decide +kernel
theorem dX0_writeRuns_119 : decode cX0_writeRuns 119 = .ok (.ifCond .ne 7, 3) := by decide +kernel
theorem dX0_writeRuns_122 : decode cX0_writeRuns 122 = .ok (.iconst 1, 1) := by decide +kernel
theorem dX0_writeRuns_123 : decode cX0_writeRuns 123 = .ok (.goto 4, 3) := by decide +kernel
theorem dX0_writeRuns_126 : decode cX0_writeRuns 126 = .ok (.iconst 0, 1) := by decide +kernel
theorem dX0_writeRuns_127 : decode cX0_writeRuns 127 = .ok (.invokevirtual 198, 3) := by decide +kernel
theorem dX0_writeRuns_130 : decode cX0_writeRuns 130 = .ok (.return_, 1) := by decide +kernel
