theorem dX9_init_0 : decode cX9_init 0 = .ok (.aload_n 0, 1) := by decide +kernel
theorem dX9_init_1 : decode cX9_init 1 = .ok (.invokespecial 3, 3) := by decide +kernel
theorem dX9_init_4 : decode cX9_init 4 = .ok (.aload_n 0, 1) := by decide +kernel
theorem dX9_init_5 : decode cX9_init 5 = .ok (.sipush 256, 3) := by decide +kernel
theorem dX9_init_8 : decode cX9_init 8 = .ok (.newarray .int, 2) := by decide +kernel
theorem dX9_init_10 : decode cX9_init 10 = .ok (.putfield 9, 3) := by decide +kernel
theorem dX9_init_13 : decode cX9_init 13 = .ok (.aload_n 0, 1) := by decide +kernel
theorem dX9_init_14 : decode cX9_init 14 = .ok (.aload_n 1, 1) := by decide +kernel
theorem dX9_init_15 : decode cX9_init 15 = .ok (.putfield 15, 3) := by decide +kernel
theorem dX9_init_18 : decode cX9_init 18 = .ok (.return_, 1) := by decide +kernel
theorem dX9_decode_0 : decode cX9_decode 0 = .ok (.aload_n 1, 1) := by decide +kernel
theorem dX9_decode_1 : decode cX9_decode 1 = .ok (.invokevirtual 19, 3) := by decide +kernel
theorem dX9_decode_4 : decode cX9_decode 4 = .ok (.istore_n 3, 1) := by decide +kernel
theorem dX9_decode_5 : decode cX9_decode 5 = .ok (.aload_n 0, 1) := by decide +kernel
theorem dX9_decode_6 : decode cX9_decode 6 = .ok (.aload_n 1, 1) := by decide +kernel
theorem dX9_decode_7 : decode cX9_decode 7 = .ok (.invokevirtual 25, 3) := by decide +kernel
theorem dX9_decode_10 : decode cX9_decode 10 = .ok (.aload_n 0, 1) := by decide +kernel
theorem dX9_decode_11 : decode cX9_decode 11 = .ok (.aload_n 1, 1) := by decide +kernel
theorem dX9_decode_12 : decode cX9_decode 12 = .ok (.invokevirtual 29, 3) := by decide +kernel
theorem dX9_decode_15 : decode cX9_decode 15 = .ok (.aload_n 1, 1) := by decide +kernel
theorem dX9_decode_16 : decode cX9_decode 16 = .ok (.iconst 4, 1) := by decide +kernel
theorem dX9_decode_17 : decode cX9_decode 17 = .ok (.invokevirtual 32, 3) := by decide +kernel
theorem dX9_decode_20 : decode cX9_decode 20 = .ok (.aload_n 1, 1) := by decide +kernel
theorem dX9_decode_21 : decode cX9_decode 21 = .ok (.aload_n 2, 1) := by decide +kernel
theorem dX9_decode_22 : decode cX9_decode 22 = .ok (.invokestatic 36, 3) := by decide +kernel
theorem dX9_decode_25 : decode cX9_decode 25 = .ok (.aload_n 0, 1) := by decide +kernel
theorem dX9_decode_26 : decode cX9_decode 26 = .ok (.aload_n 1, 1) := by decide +kernel
theorem dX9_decode_27 : decode cX9_decode 27 = .ok (.invokevirtual 40, 3) := by decide +kernel
theorem dX9_decode_30 : decode cX9_decode 30 = .ok (.aload_n 0, 1) := by decide +kernel
theorem dX9_decode_31 : decode cX9_decode 31 = .ok (.aload_n 1, 1) := by decide +kernel
theorem dX9_decode_32 : decode cX9_decode 32 = .ok (.invokevirtual 43, 3) := by decide +kernel
theorem dX9_decode_35 : decode cX9_decode 35 = .ok (.aload_n 1, 1) := by decide +kernel
theorem dX9_decode_36 : decode cX9_decode 36 = .ok (.iload_n 3, 1) := by decide +kernel
theorem dX9_decode_37 : decode cX9_decode 37 = .ok (.invokevirtual 32, 3) := by decide +kernel
theorem dX9_decode_40 : decode cX9_decode 40 = .ok (.aload_n 0, 1) := by decide +kernel
theorem dX9_decode_41 : decode cX9_decode 41 = .ok (.aload_n 1, 1) := by decide +kernel
theorem dX9_decode_42 : decode cX9_decode 42 = .ok (.invokevirtual 46, 3) := by decide +kernel
theorem dX9_decode_45 : decode cX9_decode 45 = .ok (.aload_n 0, 1) := by decide +kernel
theorem dX9_decode_46 : decode cX9_decode 46 = .ok (.aload_n 1, 1) := by decide +kernel
theorem dX9_decode_47 : decode cX9_decode 47 = .ok (.aload_n 2, 1) := by decide +kernel
theorem dX9_decode_48 : decode cX9_decode 48 = .ok (.invokevirtual 49, 3) := by decide +kernel
theorem dX9_decode_51 : decode cX9_decode 51 = .ok (.aload_n 1, 1) := by decide +kernel
theorem dX9_decode_52 : decode cX9_decode 52 = .ok (.invokestatic 52, 3) := by decide +kernel
theorem dX9_decode_55 : decode cX9_decode 55 = .ok (.aload_n 0, 1) := by decide +kernel
theorem dX9_decode_56 : decode cX9_decode 56 = .ok (.aload_n 0, 1) := by decide +kernel
theorem dX9_decode_57 : decode cX9_decode 57 = .ok (.getfield 55, 3) := by decide +kernel
theorem dX9_decode_60 : decode cX9_decode 60 = .ok (.putfield 59, 3) := by decide +kernel
theorem dX9_decode_63 : decode cX9_decode 63 = .ok (.aload_n 0, 1) := by decide +kernel
theorem dX9_decode_64 : decode cX9_decode 64 = .ok (.aload_n 0, 1) := by decide +kernel
theorem dX9_decode_65 : decode cX9_decode 65 = .ok (.getfield 62, 3) := by decide +kernel
theorem dX9_decode_68 : decode cX9_decode 68 = .ok (.putfield 65, 3) := by decide +kernel
theorem dX9_decode_71 : decode cX9_decode 71 = .ok (.aload_n 0, 1) := by decide +kernel
theorem dX9_decode_72 : decode cX9_decode 72 = .ok (.aload_n 0, 1) := by decide +kernel
theorem dX9_decode_73 : decode cX9_decode 73 = .ok (.getfield 68, 3) := by decide +kernel
theorem dX9_decode_76 : decode cX9_decode 76 = .ok (.putfield 71, 3) := by decide +kernel
theorem dX9_decode_79 : decode cX9_decode 79 = .ok (.return_, 1) := by decide +kernel
theorem dX9_readTypes_0 : decode cX9_readTypes 0 = .ok (.aload_n 1, 1) := by decide +kernel
theorem dX9_readTypes_1 : decode cX9_readTypes 1 = .ok (.getfield 74, 3) := by decide +kernel
theorem dX9_readTypes_4 : decode cX9_readTypes 4 = .ok (.istore_n 2, 1) := by decide +kernel
theorem dX9_readTypes_5 : decode cX9_readTypes 5 = .ok (.aload_n 0, 1) := by decide +kernel
theorem dX9_readTypes_6 : decode cX9_readTypes 6 = .ok (.aload_n 1, 1) := by decide +kernel
theorem dX9_readTypes_7 : decode cX9_readTypes 7 = .ok (.invokevirtual 19, 3) := by decide +kernel
theorem dX9_readTypes_10 : decode cX9_readTypes 10 = .ok (.putfield 77, 3) := by decide +kernel
theorem dX9_readTypes_13 : decode cX9_readTypes 13 = .ok (.aload_n 0, 1) := by decide +kernel
theorem dX9_readTypes_14 : decode cX9_readTypes 14 = .ok (.getfield 77, 3) := by decide +kernel
theorem dX9_readTypes_17 : decode cX9_readTypes 17 = .ok (.iconst 1, 1) := by decide +kernel
theorem dX9_readTypes_18 : decode cX9_readTypes 18 = .ok (.if_icmp .le 9, 3) := by decide +kernel
theorem dX9_readTypes_21 : decode cX9_readTypes 21 = .ok (.aload_n 1, 1) := by decide +kernel
theorem dX9_readTypes_22 : decode cX9_readTypes 22 = .ok (.iconst 2, 1) := by decide +kernel
theorem dX9_readTypes_23 : decode cX9_readTypes 23 = .ok (.iload_n 2, 1) := by decide +kernel
theorem dX9_readTypes_24 : decode cX9_readTypes 24 = .ok (.invokevirtual 80, 3) := by decide +kernel
theorem dX9_readTypes_27 : decode cX9_readTypes 27 = .ok (.aload_n 1, 1) := by decide +kernel
theorem dX9_readTypes_28 : decode cX9_readTypes 28 = .ok (.getfield 74, 3) := by decide +kernel
theorem dX9_readTypes_31 : decode cX9_readTypes 31 = .ok (.istore_n 2, 1) := by decide +kernel
theorem dX9_readTypes_32 : decode cX9_readTypes 32 = .ok (.aload_n 0, 1) := by decide +kernel
theorem dX9_readTypes_33 : decode cX9_readTypes 33 = .ok (.aload_n 1, 1) := by decide +kernel
theorem dX9_readTypes_34 : decode cX9_readTypes 34 = .ok (.invokevirtual 19, 3) := by decide +kernel
theorem dX9_readTypes_37 : decode cX9_readTypes 37 = .ok (.putfield 55, 3) := by decide +kernel
theorem dX9_readTypes_40 : decode cX9_readTypes 40 = .ok (.aload_n 0, 1) := by decide +kernel
theorem dX9_readTypes_41 : decode cX9_readTypes 41 = .ok (.getfield 55, 3) := by decide +kernel
theorem dX9_readTypes_44 : decode cX9_readTypes 44 = .ok (.bipush 7, 2) := by decide +kernel
theorem dX9_readTypes_46 : decode cX9_readTypes 46 = .ok (.iand, 1) := by decide +kernel
theorem dX9_readTypes_47 : decode cX9_readTypes 47 = .ok (.istore_n 3, 1) := by decide +kernel
theorem dX9_readTypes_48 : decode cX9_readTypes 48 = .ok (.aload_n 0, 1) := by decide +kernel
theorem dX9_readTypes_49 : decode cX9_readTypes 49 = .ok (.iload_n 3, 1) := by decide +kernel
theorem dX9_readTypes_50 : decode cX9_readTypes 50 = .ok (.iconst 1, 1) := by decide +kernel
theorem dX9_readTypes_51 : decode cX9_readTypes 51 = .ok (.if_icmp .ne 7, 3) := by decide +kernel
theorem dX9_readTypes_54 : decode cX9_readTypes 54 = .ok (.iconst 1, 1) := by decide +kernel
theorem dX9_readTypes_55 : decode cX9_readTypes 55 = .ok (.goto 4, 3) := by decide +kernel
theorem dX9_readTypes_58 : decode cX9_readTypes 58 = .ok (.iconst 0, 1) := by decide +kernel
theorem dX9_readTypes_59 : decode cX9_readTypes 59 = .ok (.putfield 84, 3) := by decide +kernel
theorem dX9_readTypes_62 : decode cX9_readTypes 62 = .ok (.iload_n 3, 1) := by decide +kernel
theorem dX9_readTypes_63 : decode cX9_readTypes 63 = .ok (.iconst 1, 1) := by decide +kernel
theorem dX9_readTypes_64 : decode cX9_readTypes 64 = .ok (.if_icmp .lt 31, 3) := by decide +kernel
theorem dX9_readTypes_67 : decode cX9_readTypes 67 = .ok (.iload_n 3, 1) := by decide +kernel
theorem dX9_readTypes_68 : decode cX9_readTypes 68 = .ok (.iconst 3, 1) := by decide +kernel
theorem dX9_readTypes_69 : decode cX9_readTypes 69 = .ok (.if_icmp .gt 26, 3) := by decide +kernel
theorem dX9_readTypes_72 : decode cX9_readTypes 72 = .ok (.aload_n 0, 1) := by decide +kernel
theorem dX9_readTypes_73 : decode cX9_readTypes 73 = .ok (.getfield 55, 3) := by decide +kernel
theorem dX9_readTypes_76 : decode cX9_readTypes 76 = .ok (.bipush 11, 2) := by decide +kernel
theorem dX9_readTypes_78 : decode cX9_readTypes 78 = .ok (.if_icmp .gt 17, 3) := by decide +kernel
theorem dX9_readTypes_81 : decode cX9_readTypes 81 = .ok (.aload_n 0, 1) := by decide +kernel
theorem dX9_readTypes_82 : decode cX9_readTypes 82 = .ok (.getfield 84, 3) := by decide +kernel
theorem dX9_readTypes_85 : decode cX9_readTypes 85 = .ok (.ifCond .eq 16, 3) := by decide +kernel
theorem dX9_readTypes_88 : decode cX9_readTypes 88 = .ok (.aload_n 0, 1) := by decide +kernel
theorem dX9_readTypes_89 : decode cX9_readTypes 89 = .ok (.getfield 77, 3) := by decide +kernel
theorem dX9_readTypes_92 : decode cX9_readTypes 92 = .ok (.ifCond .ne 9, 3) := by decide +kernel
theorem dX9_readTypes_95 : decode cX9_readTypes 95 = .ok (.aload_n 1, 1) := by decide +kernel
theorem dX9_readTypes_96 : decode cX9_readTypes 96 = .ok (.iconst 2, 1) := by decide +kernel
theorem dX9_readTypes_97 : decode cX9_readTypes 97 = .ok (.iload_n 2, 1) := by decide +kernel
theorem dX9_readTypes_98 : decode cX9_readTypes 98 = .ok (.invokevirtual 80, 3) := by decide +kernel
theorem dX9_readTypes_101 : decode cX9_readTypes 101 = .ok (.return_, 1) := by decide +kernel
theorem dX9_readMapHeader_0 : decode cX9_readMapHeader 0 = .ok (.aload_n 1, 1) := by decide +kernel
theorem dX9_readMapHeader_1 : decode cX9_readMapHeader 1 = .ok (.getfield 74, 3) := by decide +kernel
theorem dX9_readMapHeader_4 : decode cX9_readMapHeader 4 = .ok (.istore_n 2, 1) := by decide +kernel
theorem dX9_readMapHeader_5 : decode cX9_readMapHeader 5 = .ok (.aload_n 0, 1) := by decide +kernel
theorem dX9_readMapHeader_6 : decode cX9_readMapHeader 6 = .ok (.aload_n 1, 1) := by decide +kernel
theorem dX9_readMapHeader_7 : decode cX9_readMapHeader 7 = .ok (.invokevirtual 88, 3) := by decide +kernel
theorem dX9_readMapHeader_10 : decode cX9_readMapHeader 10 = .ok (.putfield 91, 3) := by decide +kernel
theorem dX9_readMapHeader_13 : decode cX9_readMapHeader 13 = .ok (.aload_n 0, 1) := by decide +kernel
theorem dX9_readMapHeader_14 : decode cX9_readMapHeader 14 = .ok (.getfield 77, 3) := by decide +kernel
theorem dX9_readMapHeader_17 : decode cX9_readMapHeader 17 = .ok (.ifCond .ne 16, 3) := by decide +kernel
theorem dX9_readMapHeader_20 : decode cX9_readMapHeader 20 = .ok (.aload_n 0, 1) := by decide +kernel
theorem dX9_readMapHeader_21 : decode cX9_readMapHeader 21 = .ok (.getfield 91, 3) := by decide +kernel
theorem dX9_readMapHeader_24 : decode cX9_readMapHeader 24 = .ok (.ifCond .eq 9, 3) := by decide +kernel
theorem dX9_readMapHeader_27 : decode cX9_readMapHeader 27 = .ok (.aload_n 1, 1) := by decide +kernel
theorem dX9_readMapHeader_28 : decode cX9_readMapHeader 28 = .ok (.iconst 2, 1) := by decide +kernel
theorem dX9_readMapHeader_29 : decode cX9_readMapHeader 29 = .ok (.iload_n 2, 1) := by decide +kernel
theorem dX9_readMapHeader_30 : decode cX9_readMapHeader 30 = .ok (.invokevirtual 80, 3) := by decide +kernel
theorem dX9_readMapHeader_33 : decode cX9_readMapHeader 33 = .ok (.aload_n 1, 1) := by decide +kernel
theorem dX9_readMapHeader_34 : decode cX9_readMapHeader 34 = .ok (.getfield 74, 3) := by decide +kernel
theorem dX9_readMapHeader_37 : decode cX9_readMapHeader 37 = .ok (.istore_n 2, 1) := by decide +kernel
theorem dX9_readMapHeader_38 : decode cX9_readMapHeader 38 = .ok (.aload_n 0, 1) := by decide +kernel
theorem dX9_readMapHeader_39 : decode cX9_readMapHeader 39 = .ok (.aload_n 1, 1) := by decide +kernel
theorem dX9_readMapHeader_40 : decode cX9_readMapHeader 40 = .ok (.invokevirtual 88, 3) := by decide +kernel
theorem dX9_readMapHeader_43 : decode cX9_readMapHeader 43 = .ok (.putfield 94, 3) := by decide +kernel
theorem dX9_readMapHeader_46 : decode cX9_readMapHeader 46 = .ok (.aload_n 0, 1) := by decide +kernel
theorem dX9_readMapHeader_47 : decode cX9_readMapHeader 47 = .ok (.getfield 77, 3) := by decide +kernel
theorem dX9_readMapHeader_50 : decode cX9_readMapHeader 50 = .ok (.ifCond .ne 13, 3) := by decide +kernel
theorem dX9_readMapHeader_53 : decode cX9_readMapHeader 53 = .ok (.aload_n 0, 1) := by decide +kernel
theorem dX9_readMapHeader_54 : decode cX9_readMapHeader 54 = .ok (.getfield 94, 3) := by decide +kernel
theorem dX9_readMapHeader_57 : decode cX9_readMapHeader 57 = .ok (.ifCond .eq 19, 3) := by decide +kernel
theorem dX9_readMapHeader_60 : decode cX9_readMapHeader 60 = .ok (.goto 10, 3) := by decide +kernel
theorem dX9_readMapHeader_63 : decode cX9_readMapHeader 63 = .ok (.aload_n 0, 1) := by decide +kernel
theorem dX9_readMapHeader_64 : decode cX9_readMapHeader 64 = .ok (.getfield 94, 3) := by decide +kernel
theorem dX9_readMapHeader_67 : decode cX9_readMapHeader 67 = .ok (.ifCond .ne 9, 3) := by decide +kernel
theorem dX9_readMapHeader_70 : decode cX9_readMapHeader 70 = .ok (.aload_n 1, 1) := by decide +kernel
theorem dX9_readMapHeader_71 : decode cX9_readMapHeader 71 = .ok (.iconst 2, 1) := by decide +kernel
theorem dX9_readMapHeader_72 : decode cX9_readMapHeader 72 = .ok (.iload_n 2, 1) := by decide +kernel
theorem dX9_readMapHeader_73 : decode cX9_readMapHeader 73 = .ok (.invokevirtual 80, 3) := by decide +kernel
theorem dX9_readMapHeader_76 : decode cX9_readMapHeader 76 = .ok (.aload_n 1, 1) := by decide +kernel
theorem dX9_readMapHeader_77 : decode cX9_readMapHeader 77 = .ok (.getfield 74, 3) := by decide +kernel
theorem dX9_readMapHeader_80 : decode cX9_readMapHeader 80 = .ok (.istore_n 2, 1) := by decide +kernel
theorem dX9_readMapHeader_81 : decode cX9_readMapHeader 81 = .ok (.aload_n 0, 1) := by decide +kernel
theorem dX9_readMapHeader_82 : decode cX9_readMapHeader 82 = .ok (.aload_n 1, 1) := by decide +kernel
theorem dX9_readMapHeader_83 : decode cX9_readMapHeader 83 = .ok (.invokevirtual 19, 3) := by decide +kernel
theorem dX9_readMapHeader_86 : decode cX9_readMapHeader 86 = .ok (.putfield 97, 3) := by decide +kernel
theorem dX9_readMapHeader_89 : decode cX9_readMapHeader 89 = .ok (.aload_n 0, 1) := by decide +kernel
theorem dX9_readMapHeader_90 : decode cX9_readMapHeader 90 = .ok (.getfield 97, 3) := by decide +kernel
theorem dX9_readMapHeader_93 : decode cX9_readMapHeader 93 = .ok (.bipush 15, 2) := by decide +kernel
theorem dX9_readMapHeader_95 : decode cX9_readMapHeader 95 = .ok (.if_icmp .eq 30, 3) := by decide +kernel
theorem dX9_readMapHeader_98 : decode cX9_readMapHeader 98 = .ok (.aload_n 0, 1) := by decide +kernel
theorem dX9_readMapHeader_99 : decode cX9_readMapHeader 99 = .ok (.getfield 97, 3) := by decide +kernel
theorem dX9_readMapHeader_102 : decode cX9_readMapHeader 102 = .ok (.bipush 16, 2) := by decide +kernel
theorem dX9_readMapHeader_104 : decode cX9_readMapHeader 104 = .ok (.if_icmp .eq 21, 3) := by decide +kernel
theorem dX9_readMapHeader_107 : decode cX9_readMapHeader 107 = .ok (.aload_n 0, 1) := by decide +kernel
theorem dX9_readMapHeader_108 : decode cX9_readMapHeader 108 = .ok (.getfield 97, 3) := by decide +kernel
theorem dX9_readMapHeader_111 : decode cX9_readMapHeader 111 = .ok (.bipush 24, 2) := by decide +kernel
theorem dX9_readMapHeader_113 : decode cX9_readMapHeader 113 = .ok (.if_icmp .eq 12, 3) := by decide +kernel
theorem dX9_readMapHeader_116 : decode cX9_readMapHeader 116 = .ok (.aload_n 0, 1) := by decide +kernel
theorem dX9_readMapHeader_117 : decode cX9_readMapHeader 117 = .ok (.getfield 97, 3) := by decide +kernel
theorem dX9_readMapHeader_120 : decode cX9_readMapHeader 120 = .ok (.bipush 32, 2) := by decide +kernel
theorem dX9_readMapHeader_122 : decode cX9_readMapHeader 122 = .ok (.if_icmp .ne 7, 3) := by decide +kernel
theorem dX9_readMapHeader_125 : decode cX9_readMapHeader 125 = .ok (.iconst 1, 1) := by decide +kernel
theorem dX9_readMapHeader_126 : decode cX9_readMapHeader 126 = .ok (.goto 4, 3) := by decide +kernel
theorem dX9_readMapHeader_129 : decode cX9_readMapHeader 129 = .ok (.iconst 0, 1) := by decide +kernel
theorem dX9_readMapHeader_130 : decode cX9_readMapHeader 130 = .ok (.istore_n 3, 1) := by decide +kernel
theorem dX9_readMapHeader_131 : decode cX9_readMapHeader 131 = .ok (.aload_n 0, 1) := by decide +kernel
theorem dX9_readMapHeader_132 : decode cX9_readMapHeader 132 = .ok (.getfield 77, 3) := by decide +kernel
theorem dX9_readMapHeader_135 : decode cX9_readMapHeader 135 = .ok (.ifCond .ne 13, 3) := by decide +kernel
theorem dX9_readMapHeader_138 : decode cX9_readMapHeader 138 = .ok (.aload_n 0, 1) := by decide +kernel
theorem dX9_readMapHeader_139 : decode cX9_readMapHeader 139 = .ok (.getfield 97, 3) := by decide +kernel
theorem dX9_readMapHeader_142 : decode cX9_readMapHeader 142 = .ok (.ifCond .eq 16, 3) := by decide +kernel
theorem dX9_readMapHeader_145 : decode cX9_readMapHeader 145 = .ok (.goto 7, 3) := by decide +kernel
theorem dX9_readMapHeader_148 : decode cX9_readMapHeader 148 = .ok (.iload_n 3, 1) := by decide +kernel
theorem dX9_readMapHeader_149 : decode cX9_readMapHeader 149 = .ok (.ifCond .ne 9, 3) := by decide +kernel
theorem dX9_readMapHeader_152 : decode cX9_readMapHeader 152 = .ok (.aload_n 1, 1) := by decide +kernel
theorem dX9_readMapHeader_153 : decode cX9_readMapHeader 153 = .ok (.iconst 2, 1) := by decide +kernel
theorem dX9_readMapHeader_154 : decode cX9_readMapHeader 154 = .ok (.iload_n 2, 1) := by decide +kernel
theorem dX9_readMapHeader_155 : decode cX9_readMapHeader 155 = .ok (.invokevirtual 80, 3) := by decide +kernel
theorem dX9_readMapHeader_158 : decode cX9_readMapHeader 158 = .ok (.return_, 1) := by decide +kernel
theorem dX9_readSize_0 : decode cX9_readSize 0 = .ok (.aload_n 0, 1) := by decide +kernel
theorem dX9_readSize_1 : decode cX9_readSize 1 = .ok (.invokestatic 100, 3) := by decide +kernel
theorem dX9_readSize_4 : decode cX9_readSize 4 = .ok (.istore_n 2, 1) := by decide +kernel
theorem dX9_readSize_5 : decode cX9_readSize 5 = .ok (.aload_n 0, 1) := by decide +kernel
theorem dX9_readSize_6 : decode cX9_readSize 6 = .ok (.getfield 74, 3) := by decide +kernel
theorem dX9_readSize_9 : decode cX9_readSize 9 = .ok (.istore_n 3, 1) := by decide +kernel
theorem dX9_readSize_10 : decode cX9_readSize 10 = .ok (.aload_n 0, 1) := by decide +kernel
theorem dX9_readSize_11 : decode cX9_readSize 11 = .ok (.invokestatic 100, 3) := by decide +kernel
theorem dX9_readSize_14 : decode cX9_readSize 14 = .ok (.istore 4, 2) := by decide +kernel
theorem dX9_readSize_16 : decode cX9_readSize 16 = .ok (.aload_n 0, 1) := by decide +kernel
theorem dX9_readSize_17 : decode cX9_readSize 17 = .ok (.aload_n 1, 1) := by decide +kernel
theorem dX9_readSize_18 : decode cX9_readSize 18 = .ok (.iload_n 2, 1) := by decide +kernel
theorem dX9_readSize_19 : decode cX9_readSize 19 = .ok (.i2l, 1) := by decide +kernel
theorem dX9_readSize_20 : decode cX9_readSize 20 = .ok (.iload 4, 2) := by decide +kernel
theorem dX9_readSize_22 : decode cX9_readSize 22 = .ok (.i2l, 1) := by decide +kernel
theorem dX9_readSize_23 : decode cX9_readSize 23 = .ok (.iload_n 3, 1) := by decide +kernel
theorem dX9_readSize_24 : decode cX9_readSize 24 = .ok (.invokevirtual 104, 3) := by decide +kernel
theorem dX9_readSize_27 : decode cX9_readSize 27 = .ok (.return_, 1) := by decide +kernel
theorem dX9_readSide_0 : decode cX9_readSide 0 = .ok (.aload_n 0, 1) := by decide +kernel
theorem dX9_readSide_1 : decode cX9_readSide 1 = .ok (.getfield 74, 3) := by decide +kernel
theorem dX9_readSide_4 : decode cX9_readSide 4 = .ok (.istore_n 1, 1) := by decide +kernel
theorem dX9_readSide_5 : decode cX9_readSide 5 = .ok (.aload_n 0, 1) := by decide +kernel
theorem dX9_readSide_6 : decode cX9_readSide 6 = .ok (.invokevirtual 88, 3) := by decide +kernel
theorem dX9_readSide_9 : decode cX9_readSide 9 = .ok (.istore_n 2, 1) := by decide +kernel
theorem dX9_readSide_10 : decode cX9_readSide 10 = .ok (.iload_n 2, 1) := by decide +kernel
theorem dX9_readSide_11 : decode cX9_readSide 11 = .ok (.ifCond .ne 9, 3) := by decide +kernel
theorem dX9_readSide_14 : decode cX9_readSide 14 = .ok (.aload_n 0, 1) := by decide +kernel
theorem dX9_readSide_15 : decode cX9_readSide 15 = .ok (.iconst 2, 1) := by decide +kernel
theorem dX9_readSide_16 : decode cX9_readSide 16 = .ok (.iload_n 1, 1) := by decide +kernel
theorem dX9_readSide_17 : decode cX9_readSide 17 = .ok (.invokevirtual 80, 3) := by decide +kernel
theorem dX9_readSide_20 : decode cX9_readSide 20 = .ok (.iload_n 2, 1) := by decide +kernel
theorem dX9_readSide_21 : decode cX9_readSide 21 = .ok (.ireturn, 1) := by decide +kernel
theorem dX9_readBits_0 : decode cX9_readBits 0 = .ok (.aload_n 1, 1) := by decide +kernel
theorem dX9_readBits_1 : decode cX9_readBits 1 = .ok (.getfield 74, 3) := by decide +kernel
theorem dX9_readBits_4 : decode cX9_readBits 4 = .ok (.istore_n 2, 1) := by decide +kernel
theorem dX9_readBits_5 : decode cX9_readBits 5 = .ok (.aload_n 0, 1) := by decide +kernel
theorem dX9_readBits_6 : decode cX9_readBits 6 = .ok (.aload_n 1, 1) := by decide +kernel
theorem dX9_readBits_7 : decode cX9_readBits 7 = .ok (.invokevirtual 19, 3) := by decide +kernel
theorem dX9_readBits_10 : decode cX9_readBits 10 = .ok (.putfield 62, 3) := by decide +kernel
theorem dX9_readBits_13 : decode cX9_readBits 13 = .ok (.aload_n 0, 1) := by decide +kernel
theorem dX9_readBits_14 : decode cX9_readBits 14 = .ok (.getfield 55, 3) := by decide +kernel
theorem dX9_readBits_17 : decode cX9_readBits 17 = .ok (.bipush 7, 2) := by decide +kernel
theorem dX9_readBits_19 : decode cX9_readBits 19 = .ok (.iand, 1) := by decide +kernel
theorem dX9_readBits_20 : decode cX9_readBits 20 = .ok (.iconst 2, 1) := by decide +kernel
theorem dX9_readBits_21 : decode cX9_readBits 21 = .ok (.if_icmp .ne 7, 3) := by decide +kernel
theorem dX9_readBits_24 : decode cX9_readBits 24 = .ok (.iconst 1, 1) := by decide +kernel
theorem dX9_readBits_25 : decode cX9_readBits 25 = .ok (.goto 4, 3) := by decide +kernel
theorem dX9_readBits_28 : decode cX9_readBits 28 = .ok (.iconst 0, 1) := by decide +kernel
theorem dX9_readBits_29 : decode cX9_readBits 29 = .ok (.istore_n 3, 1) := by decide +kernel
theorem dX9_readBits_30 : decode cX9_readBits 30 = .ok (.iload_n 3, 1) := by decide +kernel
theorem dX9_readBits_31 : decode cX9_readBits 31 = .ok (.ifCond .eq 38, 3) := by decide +kernel
theorem dX9_readBits_34 : decode cX9_readBits 34 = .ok (.aload_n 0, 1) := by decide +kernel
theorem dX9_readBits_35 : decode cX9_readBits 35 = .ok (.getfield 62, 3) := by decide +kernel
theorem dX9_readBits_38 : decode cX9_readBits 38 = .ok (.bipush 16, 2) := by decide +kernel
theorem dX9_readBits_40 : decode cX9_readBits 40 = .ok (.if_icmp .eq 21, 3) := by decide +kernel
theorem dX9_readBits_43 : decode cX9_readBits 43 = .ok (.aload_n 0, 1) := by decide +kernel
theorem dX9_readBits_44 : decode cX9_readBits 44 = .ok (.getfield 62, 3) := by decide +kernel
theorem dX9_readBits_47 : decode cX9_readBits 47 = .ok (.bipush 24, 2) := by decide +kernel
theorem dX9_readBits_49 : decode cX9_readBits 49 = .ok (.if_icmp .eq 12, 3) := by decide +kernel
theorem dX9_readBits_52 : decode cX9_readBits 52 = .ok (.aload_n 0, 1) := by decide +kernel
theorem dX9_readBits_53 : decode cX9_readBits 53 = .ok (.getfield 62, 3) := by decide +kernel
theorem dX9_readBits_56 : decode cX9_readBits 56 = .ok (.bipush 32, 2) := by decide +kernel
theorem dX9_readBits_58 : decode cX9_readBits 58 = .ok (.if_icmp .ne 7, 3) := by decide +kernel
theorem dX9_readBits_61 : decode cX9_readBits 61 = .ok (.iconst 1, 1) := by decide +kernel
theorem dX9_readBits_62 : decode cX9_readBits 62 = .ok (.goto 21, 3) := by decide +kernel
theorem dX9_readBits_65 : decode cX9_readBits 65 = .ok (.iconst 0, 1) := by decide +kernel
theorem dX9_readBits_66 : decode cX9_readBits 66 = .ok (.goto 17, 3) := by decide +kernel
theorem dX9_readBits_69 : decode cX9_readBits 69 = .ok (.aload_n 0, 1) := by decide +kernel
theorem dX9_readBits_70 : decode cX9_readBits 70 = .ok (.getfield 62, 3) := by decide +kernel
theorem dX9_readBits_73 : decode cX9_readBits 73 = .ok (.bipush 8, 2) := by decide +kernel
theorem dX9_readBits_75 : decode cX9_readBits 75 = .ok (.if_icmp .ne 7, 3) := by decide +kernel
theorem dX9_readBits_78 : decode cX9_readBits 78 = .ok (.iconst 1, 1) := by decide +kernel
theorem dX9_readBits_79 : decode cX9_readBits 79 = .ok (.goto 4, 3) := by decide +kernel
theorem dX9_readBits_82 : decode cX9_readBits 82 = .ok (.iconst 0, 1) := by decide +kernel
theorem dX9_readBits_83 : decode cX9_readBits 83 = .ok (.istore 4, 2) := by decide +kernel
theorem dX9_readBits_85 : decode cX9_readBits 85 = .ok (.iload 4, 2) := by decide +kernel
theorem dX9_readBits_87 : decode cX9_readBits 87 = .ok (.ifCond .ne 9, 3) := by decide +kernel
theorem dX9_readBits_90 : decode cX9_readBits 90 = .ok (.aload_n 1, 1) := by decide +kernel
theorem dX9_readBits_91 : decode cX9_readBits 91 = .ok (.iconst 2, 1) := by decide +kernel
theorem dX9_readBits_92 : decode cX9_readBits 92 = .ok (.iload_n 2, 1) := by decide +kernel
theorem dX9_readBits_93 : decode cX9_readBits 93 = .ok (.invokevirtual 80, 3) := by decide +kernel
theorem dX9_readBits_96 : decode cX9_readBits 96 = .ok (.return_, 1) := by decide +kernel
theorem dX9_readFlags_0 : decode cX9_readFlags 0 = .ok (.aload_n 1, 1) := by decide +kernel
theorem dX9_readFlags_1 : decode cX9_readFlags 1 = .ok (.getfield 74, 3) := by decide +kernel
theorem dX9_readFlags_4 : decode cX9_readFlags 4 = .ok (.istore_n 2, 1) := by decide +kernel
theorem dX9_readFlags_5 : decode cX9_readFlags 5 = .ok (.aload_n 0, 1) := by decide +kernel
theorem dX9_readFlags_6 : decode cX9_readFlags 6 = .ok (.aload_n 1, 1) := by decide +kernel
theorem dX9_readFlags_7 : decode cX9_readFlags 7 = .ok (.invokevirtual 19, 3) := by decide +kernel
theorem dX9_readFlags_10 : decode cX9_readFlags 10 = .ok (.putfield 108, 3) := by decide +kernel
theorem dX9_readFlags_13 : decode cX9_readFlags 13 = .ok (.aload_n 0, 1) := by decide +kernel
theorem dX9_readFlags_14 : decode cX9_readFlags 14 = .ok (.aload_n 0, 1) := by decide +kernel
theorem dX9_readFlags_15 : decode cX9_readFlags 15 = .ok (.getfield 108, 3) := by decide +kernel
theorem dX9_readFlags_18 : decode cX9_readFlags 18 = .ok (.bipush 15, 2) := by decide +kernel
theorem dX9_readFlags_20 : decode cX9_readFlags 20 = .ok (.iand, 1) := by decide +kernel
theorem dX9_readFlags_21 : decode cX9_readFlags 21 = .ok (.putfield 111, 3) := by decide +kernel
theorem dX9_readFlags_24 : decode cX9_readFlags 24 = .ok (.aload_n 0, 1) := by decide +kernel
theorem dX9_readFlags_25 : decode cX9_readFlags 25 = .ok (.getfield 84, 3) := by decide +kernel
theorem dX9_readFlags_28 : decode cX9_readFlags 28 = .ok (.ifCond .eq 10, 3) := by decide +kernel
theorem dX9_readFlags_31 : decode cX9_readFlags 31 = .ok (.aload_n 0, 1) := by decide +kernel
theorem dX9_readFlags_32 : decode cX9_readFlags 32 = .ok (.getfield 97, 3) := by decide +kernel
theorem dX9_readFlags_35 : decode cX9_readFlags 35 = .ok (.goto 7, 3) := by decide +kernel
theorem dX9_readFlags_38 : decode cX9_readFlags 38 = .ok (.aload_n 0, 1) := by decide +kernel
theorem dX9_readFlags_39 : decode cX9_readFlags 39 = .ok (.getfield 62, 3) := by decide +kernel
theorem dX9_readFlags_42 : decode cX9_readFlags 42 = .ok (.istore_n 3, 1) := by decide +kernel
theorem dX9_readFlags_43 : decode cX9_readFlags 43 = .ok (.iconst 0, 1) := by decide +kernel
theorem dX9_readFlags_44 : decode cX9_readFlags 44 = .ok (.istore 4, 2) := by decide +kernel
theorem dX9_readFlags_46 : decode cX9_readFlags 46 = .ok (.iload_n 3, 1) := by decide +kernel
theorem dX9_readFlags_47 : decode cX9_readFlags 47 = .ok (.bipush 32, 2) := by decide +kernel
theorem dX9_readFlags_49 : decode cX9_readFlags 49 = .ok (.if_icmp .ne 10, 3) := by decide +kernel
theorem dX9_readFlags_52 : decode cX9_readFlags 52 = .ok (.bipush 8, 2) := by decide +kernel
theorem dX9_readFlags_54 : decode cX9_readFlags 54 = .ok (.istore 4, 2) := by decide +kernel
theorem dX9_readFlags_56 : decode cX9_readFlags 56 = .ok (.goto 12, 3) := by decide +kernel
theorem dX9_readFlags_59 : decode cX9_readFlags 59 = .ok (.iload_n 3, 1) := by decide +kernel
theorem dX9_readFlags_60 : decode cX9_readFlags 60 = .ok (.bipush 16, 2) := by decide +kernel
theorem dX9_readFlags_62 : decode cX9_readFlags 62 = .ok (.if_icmp .ne 6, 3) := by decide +kernel
theorem dX9_readFlags_65 : decode cX9_readFlags 65 = .ok (.iconst 1, 1) := by decide +kernel
theorem dX9_readFlags_66 : decode cX9_readFlags 66 = .ok (.istore 4, 2) := by decide +kernel
theorem dX9_readFlags_68 : decode cX9_readFlags 68 = .ok (.aload_n 0, 1) := by decide +kernel
theorem dX9_readFlags_69 : decode cX9_readFlags 69 = .ok (.getfield 108, 3) := by decide +kernel
theorem dX9_readFlags_72 : decode cX9_readFlags 72 = .ok (.bipush 63, 2) := by decide +kernel
theorem dX9_readFlags_74 : decode cX9_readFlags 74 = .ok (.if_icmp .gt 19, 3) := by decide +kernel
theorem dX9_readFlags_77 : decode cX9_readFlags 77 = .ok (.aload_n 0, 1) := by decide +kernel
theorem dX9_readFlags_78 : decode cX9_readFlags 78 = .ok (.getfield 111, 3) := by decide +kernel
theorem dX9_readFlags_81 : decode cX9_readFlags 81 = .ok (.ifCond .eq 18, 3) := by decide +kernel
theorem dX9_readFlags_84 : decode cX9_readFlags 84 = .ok (.aload_n 0, 1) := by decide +kernel
theorem dX9_readFlags_85 : decode cX9_readFlags 85 = .ok (.getfield 111, 3) := by decide +kernel
theorem dX9_readFlags_88 : decode cX9_readFlags 88 = .ok (.iload 4, 2) := by decide +kernel
theorem dX9_readFlags_90 : decode cX9_readFlags 90 = .ok (.if_icmp .eq 9, 3) := by decide +kernel
theorem dX9_readFlags_93 : decode cX9_readFlags 93 = .ok (.aload_n 1, 1) := by decide +kernel
theorem dX9_readFlags_94 : decode cX9_readFlags 94 = .ok (.iconst 2, 1) := by decide +kernel
theorem dX9_readFlags_95 : decode cX9_readFlags 95 = .ok (.iload_n 2, 1) := by decide +kernel
theorem dX9_readFlags_96 : decode cX9_readFlags 96 = .ok (.invokevirtual 80, 3) := by decide +kernel
theorem dX9_readFlags_99 : decode cX9_readFlags 99 = .ok (.return_, 1) := by decide +kernel
theorem dX9_readEntries_0 : decode cX9_readEntries 0 = .ok (.iconst 0, 1) := by decide +kernel
theorem dX9_readEntries_1 : decode cX9_readEntries 1 = .ok (.istore_n 2, 1) := by decide +kernel
theorem dX9_readEntries_2 : decode cX9_readEntries 2 = .ok (.iload_n 2, 1) := by decide +kernel
theorem dX9_readEntries_3 : decode cX9_readEntries 3 = .ok (.aload_n 0, 1) := by decide +kernel
theorem dX9_readEntries_4 : decode cX9_readEntries 4 = .ok (.getfield 94, 3) := by decide +kernel
theorem dX9_readEntries_7 : decode cX9_readEntries 7 = .ok (.if_icmp .ge 43, 3) := by decide +kernel
theorem dX9_readEntries_10 : decode cX9_readEntries 10 = .ok (.aload_n 0, 1) := by decide +kernel
theorem dX9_readEntries_11 : decode cX9_readEntries 11 = .ok (.aload_n 1, 1) := by decide +kernel
theorem dX9_readEntries_12 : decode cX9_readEntries 12 = .ok (.aload_n 0, 1) := by decide +kernel
theorem dX9_readEntries_13 : decode cX9_readEntries 13 = .ok (.getfield 97, 3) := by decide +kernel
theorem dX9_readEntries_16 : decode cX9_readEntries 16 = .ok (.invokevirtual 114, 3) := by decide +kernel
theorem dX9_readEntries_19 : decode cX9_readEntries 19 = .ok (.istore_n 3, 1) := by decide +kernel
theorem dX9_readEntries_20 : decode cX9_readEntries 20 = .ok (.aload_n 0, 1) := by decide +kernel
theorem dX9_readEntries_21 : decode cX9_readEntries 21 = .ok (.getfield 91, 3) := by decide +kernel
theorem dX9_readEntries_24 : decode cX9_readEntries 24 = .ok (.iload_n 2, 1) := by decide +kernel
theorem dX9_readEntries_25 : decode cX9_readEntries 25 = .ok (.iadd, 1) := by decide +kernel
theorem dX9_readEntries_26 : decode cX9_readEntries 26 = .ok (.sipush 256, 3) := by decide +kernel
theorem dX9_readEntries_29 : decode cX9_readEntries 29 = .ok (.if_icmp .ge 15, 3) := by decide +kernel
theorem dX9_readEntries_32 : decode cX9_readEntries 32 = .ok (.aload_n 0, 1) := by decide +kernel
theorem dX9_readEntries_33 : decode cX9_readEntries 33 = .ok (.getfield 9, 3) := by decide +kernel
theorem dX9_readEntries_36 : decode cX9_readEntries 36 = .ok (.aload_n 0, 1) := by decide +kernel
theorem dX9_readEntries_37 : decode cX9_readEntries 37 = .ok (.getfield 91, 3) := by decide +kernel
theorem dX9_readEntries_40 : decode cX9_readEntries 40 = .ok (.iload_n 2, 1) := by decide +kernel
theorem dX9_readEntries_41 : decode cX9_readEntries 41 = .ok (.iadd, 1) := by decide +kernel
theorem dX9_readEntries_42 : decode cX9_readEntries 42 = .ok (.iload_n 3, 1) := by decide +kernel
theorem dX9_readEntries_43 : decode cX9_readEntries 43 = .ok (.iastore, 1) := by decide +kernel
theorem dX9_readEntries_44 : decode cX9_readEntries 44 = .ok (.iinc 2 1, 3) := by decide +kernel
theorem dX9_readEntries_47 : decode cX9_readEntries 47 = .ok (.goto (-45), 3) := by decide +kernel
theorem dX9_readEntries_50 : decode cX9_readEntries 50 = .ok (.return_, 1) := by decide +kernel
theorem dX9_readPixels_0 : decode cX9_readPixels 0 = .ok (.aload_n 0, 1) := by decide +kernel
theorem dX9_readPixels_1 : decode cX9_readPixels 1 = .ok (.iconst 0, 1) := by decide +kernel
theorem dX9_readPixels_2 : decode cX9_readPixels 2 = .ok (.putfield 68, 3) := by decide +kernel
theorem dX9_readPixels_5 : decode cX9_readPixels 5 = .ok (.aload_n 0, 1) := by decide +kernel
theorem dX9_readPixels_6 : decode cX9_readPixels 6 = .ok (.iconst 0, 1) := by decide +kernel
theorem dX9_readPixels_7 : decode cX9_readPixels 7 = .ok (.putfield 118, 3) := by decide +kernel
theorem dX9_readPixels_10 : decode cX9_readPixels 10 = .ok (.iconst 0, 1) := by decide +kernel
theorem dX9_readPixels_11 : decode cX9_readPixels 11 = .ok (.istore_n 3, 1) := by decide +kernel
theorem dX9_readPixels_12 : decode cX9_readPixels 12 = .ok (.iconst 0, 1) := by decide +kernel
theorem dX9_readPixels_13 : decode cX9_readPixels 13 = .ok (.istore 4, 2) := by decide +kernel
theorem dX9_readPixels_15 : decode cX9_readPixels 15 = .ok (.iload 4, 2) := by decide +kernel
theorem dX9_readPixels_17 : decode cX9_readPixels 17 = .ok (.aload_n 2, 1) := by decide +kernel
theorem dX9_readPixels_18 : decode cX9_readPixels 18 = .ok (.getfield 121, 3) := by decide +kernel
theorem dX9_readPixels_21 : decode cX9_readPixels 21 = .ok (.if_icmp .ge 162, 3) := by decide +kernel
theorem dX9_readPixels_24 : decode cX9_readPixels 24 = .ok (.aload_n 0, 1) := by decide +kernel
theorem dX9_readPixels_25 : decode cX9_readPixels 25 = .ok (.getfield 108, 3) := by decide +kernel
theorem dX9_readPixels_28 : decode cX9_readPixels 28 = .ok (.bipush 32, 2) := by decide +kernel
theorem dX9_readPixels_30 : decode cX9_readPixels 30 = .ok (.iand, 1) := by decide +kernel
theorem dX9_readPixels_31 : decode cX9_readPixels 31 = .ok (.ifCond .eq 8, 3) := by decide +kernel
theorem dX9_readPixels_34 : decode cX9_readPixels 34 = .ok (.iload 4, 2) := by decide +kernel
theorem dX9_readPixels_36 : decode cX9_readPixels 36 = .ok (.goto 12, 3) := by decide +kernel
theorem dX9_readPixels_39 : decode cX9_readPixels 39 = .ok (.aload_n 2, 1) := by decide +kernel
theorem dX9_readPixels_40 : decode cX9_readPixels 40 = .ok (.getfield 121, 3) := by decide +kernel
theorem dX9_readPixels_43 : decode cX9_readPixels 43 = .ok (.iconst 1, 1) := by decide +kernel
theorem dX9_readPixels_44 : decode cX9_readPixels 44 = .ok (.isub, 1) := by decide +kernel
theorem dX9_readPixels_45 : decode cX9_readPixels 45 = .ok (.iload 4, 2) := by decide +kernel
theorem dX9_readPixels_47 : decode cX9_readPixels 47 = .ok (.isub, 1) := by decide +kernel
theorem dX9_readPixels_48 : decode cX9_readPixels 48 = .ok (.aload_n 2, 1) := by decide +kernel
theorem dX9_readPixels_49 : decode cX9_readPixels 49 = .ok (.getfield 126, 3) := by decide +kernel
theorem dX9_readPixels_52 : decode cX9_readPixels 52 = .ok (.imul, 1) := by decide +kernel
theorem dX9_readPixels_53 : decode cX9_readPixels 53 = .ok (.istore 5, 2) := by decide +kernel
theorem dX9_readPixels_55 : decode cX9_readPixels 55 = .ok (.iconst 0, 1) := by decide +kernel
theorem dX9_readPixels_56 : decode cX9_readPixels 56 = .ok (.istore 6, 2) := by decide +kernel
theorem dX9_readPixels_58 : decode cX9_readPixels 58 = .ok (.iload 6, 2) := by decide +kernel
theorem dX9_readPixels_60 : decode cX9_readPixels 60 = .ok (.aload_n 2, 1) := by decide +kernel
theorem dX9_readPixels_61 : decode cX9_readPixels 61 = .ok (.getfield 126, 3) := by decide +kernel
theorem dX9_readPixels_64 : decode cX9_readPixels 64 = .ok (.if_icmp .ge 113, 3) := by decide +kernel
theorem dX9_readPixels_67 : decode cX9_readPixels 67 = .ok (.aload_n 0, 1) := by decide +kernel
theorem dX9_readPixels_68 : decode cX9_readPixels 68 = .ok (.getfield 118, 3) := by decide +kernel
theorem dX9_readPixels_71 : decode cX9_readPixels 71 = .ok (.ifCond .ne 7, 3) := by decide +kernel
theorem dX9_readPixels_74 : decode cX9_readPixels 74 = .ok (.iconst 1, 1) := by decide +kernel
theorem dX9_readPixels_75 : decode cX9_readPixels 75 = .ok (.goto 4, 3) := by decide +kernel
theorem dX9_readPixels_78 : decode cX9_readPixels 78 = .ok (.iconst 0, 1) := by decide +kernel
theorem dX9_readPixels_79 : decode cX9_readPixels 79 = .ok (.istore 7, 2) := by decide +kernel
theorem dX9_readPixels_81 : decode cX9_readPixels 81 = .ok (.iload 7, 2) := by decide +kernel
theorem dX9_readPixels_83 : decode cX9_readPixels 83 = .ok (.ifCond .eq 24, 3) := by decide +kernel
theorem dX9_readPixels_86 : decode cX9_readPixels 86 = .ok (.aload_n 0, 1) := by decide +kernel
theorem dX9_readPixels_87 : decode cX9_readPixels 87 = .ok (.getfield 55, 3) := by decide +kernel
theorem dX9_readPixels_90 : decode cX9_readPixels 90 = .ok (.bipush 8, 2) := by decide +kernel
theorem dX9_readPixels_92 : decode cX9_readPixels 92 = .ok (.if_icmp .le 15, 3) := by decide +kernel
theorem dX9_readPixels_95 : decode cX9_readPixels 95 = .ok (.aload_n 0, 1) := by decide +kernel
theorem dX9_readPixels_96 : decode cX9_readPixels 96 = .ok (.aload_n 1, 1) := by decide +kernel
theorem dX9_readPixels_97 : decode cX9_readPixels 97 = .ok (.aload_n 2, 1) := by decide +kernel
theorem dX9_readPixels_98 : decode cX9_readPixels 98 = .ok (.getfield 126, 3) := by decide +kernel
theorem dX9_readPixels_101 : decode cX9_readPixels 101 = .ok (.iload 6, 2) := by decide +kernel
theorem dX9_readPixels_103 : decode cX9_readPixels 103 = .ok (.isub, 1) := by decide +kernel
theorem dX9_readPixels_104 : decode cX9_readPixels 104 = .ok (.invokevirtual 129, 3) := by decide +kernel
theorem dX9_readPixels_107 : decode cX9_readPixels 107 = .ok (.iload 7, 2) := by decide +kernel
theorem dX9_readPixels_109 : decode cX9_readPixels 109 = .ok (.ifCond .ne 10, 3) := by decide +kernel
theorem dX9_readPixels_112 : decode cX9_readPixels 112 = .ok (.aload_n 0, 1) := by decide +kernel
theorem dX9_readPixels_113 : decode cX9_readPixels 113 = .ok (.getfield 133, 3) := by decide +kernel
theorem dX9_readPixels_116 : decode cX9_readPixels 116 = .ok (.ifCond .ne 9, 3) := by decide +kernel
theorem dX9_readPixels_119 : decode cX9_readPixels 119 = .ok (.aload_n 0, 1) := by decide +kernel
theorem dX9_readPixels_120 : decode cX9_readPixels 120 = .ok (.aload_n 1, 1) := by decide +kernel
theorem dX9_readPixels_121 : decode cX9_readPixels 121 = .ok (.invokevirtual 136, 3) := by decide +kernel
theorem dX9_readPixels_124 : decode cX9_readPixels 124 = .ok (.istore_n 3, 1) := by decide +kernel
theorem dX9_readPixels_125 : decode cX9_readPixels 125 = .ok (.aload_n 0, 1) := by decide +kernel
theorem dX9_readPixels_126 : decode cX9_readPixels 126 = .ok (.aload_n 0, 1) := by decide +kernel
theorem dX9_readPixels_127 : decode cX9_readPixels 127 = .ok (.getfield 118, 3) := by decide +kernel
theorem dX9_readPixels_130 : decode cX9_readPixels 130 = .ok (.iconst 1, 1) := by decide +kernel
theorem dX9_readPixels_131 : decode cX9_readPixels 131 = .ok (.isub, 1) := by decide +kernel
theorem dX9_readPixels_132 : decode cX9_readPixels 132 = .ok (.iconst 0, 1) := by decide +kernel
theorem dX9_readPixels_133 : decode cX9_readPixels 133 = .ok (.invokestatic 139, 3) := by decide +kernel
theorem dX9_readPixels_136 : decode cX9_readPixels 136 = .ok (.putfield 118, 3) := by decide +kernel
theorem dX9_readPixels_139 : decode cX9_readPixels 139 = .ok (.aload_n 2, 1) := by decide +kernel
theorem dX9_readPixels_140 : decode cX9_readPixels 140 = .ok (.iload 5, 2) := by decide +kernel
theorem dX9_readPixels_142 : decode cX9_readPixels 142 = .ok (.aload_n 0, 1) := by decide +kernel
theorem dX9_readPixels_143 : decode cX9_readPixels 143 = .ok (.getfield 108, 3) := by decide +kernel
theorem dX9_readPixels_146 : decode cX9_readPixels 146 = .ok (.bipush 16, 2) := by decide +kernel
theorem dX9_readPixels_148 : decode cX9_readPixels 148 = .ok (.iand, 1) := by decide +kernel
theorem dX9_readPixels_149 : decode cX9_readPixels 149 = .ok (.ifCond .eq 15, 3) := by decide +kernel
theorem dX9_readPixels_152 : decode cX9_readPixels 152 = .ok (.aload_n 2, 1) := by decide +kernel
theorem dX9_readPixels_153 : decode cX9_readPixels 153 = .ok (.getfield 126, 3) := by decide +kernel
theorem dX9_readPixels_156 : decode cX9_readPixels 156 = .ok (.iconst 1, 1) := by decide +kernel
theorem dX9_readPixels_157 : decode cX9_readPixels 157 = .ok (.isub, 1) := by decide +kernel
theorem dX9_readPixels_158 : decode cX9_readPixels 158 = .ok (.iload 6, 2) := by decide +kernel
theorem dX9_readPixels_160 : decode cX9_readPixels 160 = .ok (.isub, 1) := by decide +kernel
theorem dX9_readPixels_161 : decode cX9_readPixels 161 = .ok (.goto 5, 3) := by decide +kernel
theorem dX9_readPixels_164 : decode cX9_readPixels 164 = .ok (.iload 6, 2) := by decide +kernel
theorem dX9_readPixels_166 : decode cX9_readPixels 166 = .ok (.iadd, 1) := by decide +kernel
theorem dX9_readPixels_167 : decode cX9_readPixels 167 = .ok (.iload_n 3, 1) := by decide +kernel
theorem dX9_readPixels_168 : decode cX9_readPixels 168 = .ok (.invokevirtual 145, 3) := by decide +kernel
theorem dX9_readPixels_171 : decode cX9_readPixels 171 = .ok (.iinc 6 1, 3) := by decide +kernel
theorem dX9_readPixels_174 : decode cX9_readPixels 174 = .ok (.goto (-116), 3) := by decide +kernel
theorem dX9_readPixels_177 : decode cX9_readPixels 177 = .ok (.iinc 4 1, 3) := by decide +kernel
theorem dX9_readPixels_180 : decode cX9_readPixels 180 = .ok (.goto (-165), 3) := by decide +kernel
theorem dX9_readPixels_183 : decode cX9_readPixels 183 = .ok (.return_, 1) := by decide +kernel
theorem dX9_readPacketHead_0 : decode cX9_readPacketHead 0 = .ok (.aload_n 1, 1) := by decide +kernel
theorem dX9_readPacketHead_1 : decode cX9_readPacketHead 1 = .ok (.getfield 74, 3) := by decide +kernel
theorem dX9_readPacketHead_4 : decode cX9_readPacketHead 4 = .ok (.istore_n 3, 1) := by decide +kernel
theorem dX9_readPacketHead_5 : decode cX9_readPacketHead 5 = .ok (.aload_n 1, 1) := by decide +kernel
theorem dX9_readPacketHead_6 : decode cX9_readPacketHead 6 = .ok (.invokevirtual 19, 3) := by decide +kernel
theorem dX9_readPacketHead_9 : decode cX9_readPacketHead 9 = .ok (.istore 4, 2) := by decide +kernel
theorem dX9_readPacketHead_11 : decode cX9_readPacketHead 11 = .ok (.aload_n 0, 1) := by decide +kernel
theorem dX9_readPacketHead_12 : decode cX9_readPacketHead 12 = .ok (.iload 4, 2) := by decide +kernel
theorem dX9_readPacketHead_14 : decode cX9_readPacketHead 14 = .ok (.bipush 127, 2) := by decide +kernel
theorem dX9_readPacketHead_16 : decode cX9_readPacketHead 16 = .ok (.if_icmp .le 7, 3) := by decide +kernel
theorem dX9_readPacketHead_19 : decode cX9_readPacketHead 19 = .ok (.iconst 1, 1) := by decide +kernel
theorem dX9_readPacketHead_20 : decode cX9_readPacketHead 20 = .ok (.goto 4, 3) := by decide +kernel
theorem dX9_readPacketHead_23 : decode cX9_readPacketHead 23 = .ok (.iconst 0, 1) := by decide +kernel
theorem dX9_readPacketHead_24 : decode cX9_readPacketHead 24 = .ok (.putfield 133, 3) := by decide +kernel
theorem dX9_readPacketHead_27 : decode cX9_readPacketHead 27 = .ok (.aload_n 0, 1) := by decide +kernel
theorem dX9_readPacketHead_28 : decode cX9_readPacketHead 28 = .ok (.iload 4, 2) := by decide +kernel
theorem dX9_readPacketHead_30 : decode cX9_readPacketHead 30 = .ok (.bipush 127, 2) := by decide +kernel
theorem dX9_readPacketHead_32 : decode cX9_readPacketHead 32 = .ok (.iand, 1) := by decide +kernel
theorem dX9_readPacketHead_33 : decode cX9_readPacketHead 33 = .ok (.iconst 1, 1) := by decide +kernel
theorem dX9_readPacketHead_34 : decode cX9_readPacketHead 34 = .ok (.iadd, 1) := by decide +kernel
theorem dX9_readPacketHead_35 : decode cX9_readPacketHead 35 = .ok (.putfield 118, 3) := by decide +kernel
theorem dX9_readPacketHead_38 : decode cX9_readPacketHead 38 = .ok (.aload_n 0, 1) := by decide +kernel
theorem dX9_readPacketHead_39 : decode cX9_readPacketHead 39 = .ok (.getfield 118, 3) := by decide +kernel
theorem dX9_readPacketHead_42 : decode cX9_readPacketHead 42 = .ok (.iload_n 2, 1) := by decide +kernel
theorem dX9_readPacketHead_43 : decode cX9_readPacketHead 43 = .ok (.if_icmp .le 9, 3) := by decide +kernel
theorem dX9_readPacketHead_46 : decode cX9_readPacketHead 46 = .ok (.aload_n 1, 1) := by decide +kernel
theorem dX9_readPacketHead_47 : decode cX9_readPacketHead 47 = .ok (.iconst 4, 1) := by decide +kernel
theorem dX9_readPacketHead_48 : decode cX9_readPacketHead 48 = .ok (.iload_n 3, 1) := by decide +kernel
theorem dX9_readPacketHead_49 : decode cX9_readPacketHead 49 = .ok (.invokevirtual 80, 3) := by decide +kernel
theorem dX9_readPacketHead_52 : decode cX9_readPacketHead 52 = .ok (.aload_n 0, 1) := by decide +kernel
theorem dX9_readPacketHead_53 : decode cX9_readPacketHead 53 = .ok (.dup, 1) := by decide +kernel
theorem dX9_readPacketHead_54 : decode cX9_readPacketHead 54 = .ok (.getfield 68, 3) := by decide +kernel
theorem dX9_readPacketHead_57 : decode cX9_readPacketHead 57 = .ok (.iconst 1, 1) := by decide +kernel
theorem dX9_readPacketHead_58 : decode cX9_readPacketHead 58 = .ok (.iadd, 1) := by decide +kernel
theorem dX9_readPacketHead_59 : decode cX9_readPacketHead 59 = .ok (.putfield 68, 3) := by decide +kernel
theorem dX9_readPacketHead_62 : decode cX9_readPacketHead 62 = .ok (.return_, 1) := by decide +kernel
theorem dX9_readPixel_0 : decode cX9_readPixel 0 = .ok (.aload_n 0, 1) := by decide +kernel
theorem dX9_readPixel_1 : decode cX9_readPixel 1 = .ok (.getfield 84, 3) := by decide +kernel
theorem dX9_readPixel_4 : decode cX9_readPixel 4 = .ok (.ifCond .ne 13, 3) := by decide +kernel
theorem dX9_readPixel_7 : decode cX9_readPixel 7 = .ok (.aload_n 0, 1) := by decide +kernel
theorem dX9_readPixel_8 : decode cX9_readPixel 8 = .ok (.aload_n 1, 1) := by decide +kernel
theorem dX9_readPixel_9 : decode cX9_readPixel 9 = .ok (.aload_n 0, 1) := by decide +kernel
theorem dX9_readPixel_10 : decode cX9_readPixel 10 = .ok (.getfield 62, 3) := by decide +kernel
theorem dX9_readPixel_13 : decode cX9_readPixel 13 = .ok (.invokevirtual 114, 3) := by decide +kernel
theorem dX9_readPixel_16 : decode cX9_readPixel 16 = .ok (.ireturn, 1) := by decide +kernel
theorem dX9_readPixel_17 : decode cX9_readPixel 17 = .ok (.aload_n 1, 1) := by decide +kernel
theorem dX9_readPixel_18 : decode cX9_readPixel 18 = .ok (.getfield 74, 3) := by decide +kernel
theorem dX9_readPixel_21 : decode cX9_readPixel 21 = .ok (.istore_n 2, 1) := by decide +kernel
theorem dX9_readPixel_22 : decode cX9_readPixel 22 = .ok (.aload_n 1, 1) := by decide +kernel
theorem dX9_readPixel_23 : decode cX9_readPixel 23 = .ok (.invokevirtual 19, 3) := by decide +kernel
theorem dX9_readPixel_26 : decode cX9_readPixel 26 = .ok (.istore_n 3, 1) := by decide +kernel
theorem dX9_readPixel_27 : decode cX9_readPixel 27 = .ok (.iload_n 3, 1) := by decide +kernel
theorem dX9_readPixel_28 : decode cX9_readPixel 28 = .ok (.aload_n 0, 1) := by decide +kernel
theorem dX9_readPixel_29 : decode cX9_readPixel 29 = .ok (.getfield 91, 3) := by decide +kernel
theorem dX9_readPixel_32 : decode cX9_readPixel 32 = .ok (.if_icmp .lt 16, 3) := by decide +kernel
theorem dX9_readPixel_35 : decode cX9_readPixel 35 = .ok (.iload_n 3, 1) := by decide +kernel
theorem dX9_readPixel_36 : decode cX9_readPixel 36 = .ok (.aload_n 0, 1) := by decide +kernel
theorem dX9_readPixel_37 : decode cX9_readPixel 37 = .ok (.getfield 91, 3) := by decide +kernel
theorem dX9_readPixel_40 : decode cX9_readPixel 40 = .ok (.isub, 1) := by decide +kernel
theorem dX9_readPixel_41 : decode cX9_readPixel 41 = .ok (.aload_n 0, 1) := by decide +kernel
theorem dX9_readPixel_42 : decode cX9_readPixel 42 = .ok (.getfield 94, 3) := by decide +kernel
theorem dX9_readPixel_45 : decode cX9_readPixel 45 = .ok (.if_icmp .lt 10, 3) := by decide +kernel
theorem dX9_readPixel_48 : decode cX9_readPixel 48 = .ok (.aload_n 1, 1) := by decide +kernel
theorem dX9_readPixel_49 : decode cX9_readPixel 49 = .ok (.bipush 6, 2) := by decide +kernel
theorem dX9_readPixel_51 : decode cX9_readPixel 51 = .ok (.iload_n 2, 1) := by decide +kernel
theorem dX9_readPixel_52 : decode cX9_readPixel 52 = .ok (.invokevirtual 80, 3) := by decide +kernel
theorem dX9_readPixel_55 : decode cX9_readPixel 55 = .ok (.aload_n 0, 1) := by decide +kernel
theorem dX9_readPixel_56 : decode cX9_readPixel 56 = .ok (.getfield 9, 3) := by decide +kernel
theorem dX9_readPixel_59 : decode cX9_readPixel 59 = .ok (.iload_n 3, 1) := by decide +kernel
theorem dX9_readPixel_60 : decode cX9_readPixel 60 = .ok (.sipush 255, 3) := by decide +kernel
theorem dX9_readPixel_63 : decode cX9_readPixel 63 = .ok (.iand, 1) := by decide +kernel
theorem dX9_readPixel_64 : decode cX9_readPixel 64 = .ok (.iaload, 1) := by decide +kernel
theorem dX9_readPixel_65 : decode cX9_readPixel 65 = .ok (.ireturn, 1) := by decide +kernel
theorem dX9_readColour_0 : decode cX9_readColour 0 = .ok (.aload_n 1, 1) := by decide +kernel
theorem dX9_readColour_1 : decode cX9_readColour 1 = .ok (.invokevirtual 19, 3) := by decide +kernel
theorem dX9_readColour_4 : decode cX9_readColour 4 = .ok (.istore_n 3, 1) := by decide +kernel
theorem dX9_readColour_5 : decode cX9_readColour 5 = .ok (.iload_n 2, 1) := by decide +kernel
theorem dX9_readColour_6 : decode cX9_readColour 6 = .ok (.bipush 8, 2) := by decide +kernel
theorem dX9_readColour_8 : decode cX9_readColour 8 = .ok (.if_icmp .ne 8, 3) := by decide +kernel
theorem dX9_readColour_11 : decode cX9_readColour 11 = .ok (.iload_n 3, 1) := by decide +kernel
theorem dX9_readColour_12 : decode cX9_readColour 12 = .ok (.invokestatic 148, 3) := by decide +kernel
theorem dX9_readColour_15 : decode cX9_readColour 15 = .ok (.ireturn, 1) := by decide +kernel
theorem dX9_readColour_16 : decode cX9_readColour 16 = .ok (.aload_n 1, 1) := by decide +kernel
theorem dX9_readColour_17 : decode cX9_readColour 17 = .ok (.invokevirtual 19, 3) := by decide +kernel
theorem dX9_readColour_20 : decode cX9_readColour 20 = .ok (.istore 4, 2) := by decide +kernel
theorem dX9_readColour_22 : decode cX9_readColour 22 = .ok (.iload_n 2, 1) := by decide +kernel
theorem dX9_readColour_23 : decode cX9_readColour 23 = .ok (.bipush 16, 2) := by decide +kernel
theorem dX9_readColour_25 : decode cX9_readColour 25 = .ok (.if_icmp .gt 49, 3) := by decide +kernel
theorem dX9_readColour_28 : decode cX9_readColour 28 = .ok (.aload_n 0, 1) := by decide +kernel
theorem dX9_readColour_29 : decode cX9_readColour 29 = .ok (.getfield 111, 3) := by decide +kernel
theorem dX9_readColour_32 : decode cX9_readColour 32 = .ok (.iconst 1, 1) := by decide +kernel
theorem dX9_readColour_33 : decode cX9_readColour 33 = .ok (.if_icmp .ne 15, 3) := by decide +kernel
theorem dX9_readColour_36 : decode cX9_readColour 36 = .ok (.iload 4, 2) := by decide +kernel
theorem dX9_readColour_38 : decode cX9_readColour 38 = .ok (.sipush 128, 3) := by decide +kernel
theorem dX9_readColour_41 : decode cX9_readColour 41 = .ok (.if_icmp .ge 7, 3) := by decide +kernel
theorem dX9_readColour_44 : decode cX9_readColour 44 = .ok (.iconst 1, 1) := by decide +kernel
theorem dX9_readColour_45 : decode cX9_readColour 45 = .ok (.goto 4, 3) := by decide +kernel
theorem dX9_readColour_48 : decode cX9_readColour 48 = .ok (.iconst 0, 1) := by decide +kernel
theorem dX9_readColour_49 : decode cX9_readColour 49 = .ok (.istore 5, 2) := by decide +kernel
theorem dX9_readColour_51 : decode cX9_readColour 51 = .ok (.iload 4, 2) := by decide +kernel
theorem dX9_readColour_53 : decode cX9_readColour 53 = .ok (.bipush 8, 2) := by decide +kernel
theorem dX9_readColour_55 : decode cX9_readColour 55 = .ok (.ishl, 1) := by decide +kernel
theorem dX9_readColour_56 : decode cX9_readColour 56 = .ok (.iload_n 3, 1) := by decide +kernel
theorem dX9_readColour_57 : decode cX9_readColour 57 = .ok (.ior, 1) := by decide +kernel
theorem dX9_readColour_58 : decode cX9_readColour 58 = .ok (.iload 5, 2) := by decide +kernel
theorem dX9_readColour_60 : decode cX9_readColour 60 = .ok (.ifCond .eq 7, 3) := by decide +kernel
theorem dX9_readColour_63 : decode cX9_readColour 63 = .ok (.iconst 0, 1) := by decide +kernel
theorem dX9_readColour_64 : decode cX9_readColour 64 = .ok (.goto 6, 3) := by decide +kernel
theorem dX9_readColour_67 : decode cX9_readColour 67 = .ok (.sipush 255, 3) := by decide +kernel
theorem dX9_readColour_70 : decode cX9_readColour 70 = .ok (.invokestatic 152, 3) := by decide +kernel
theorem dX9_readColour_73 : decode cX9_readColour 73 = .ok (.ireturn, 1) := by decide +kernel
theorem dX9_readColour_74 : decode cX9_readColour 74 = .ok (.aload_n 1, 1) := by decide +kernel
theorem dX9_readColour_75 : decode cX9_readColour 75 = .ok (.invokevirtual 19, 3) := by decide +kernel
theorem dX9_readColour_78 : decode cX9_readColour 78 = .ok (.istore 5, 2) := by decide +kernel
theorem dX9_readColour_80 : decode cX9_readColour 80 = .ok (.iload_n 2, 1) := by decide +kernel
theorem dX9_readColour_81 : decode cX9_readColour 81 = .ok (.bipush 32, 2) := by decide +kernel
theorem dX9_readColour_83 : decode cX9_readColour 83 = .ok (.if_icmp .ne 10, 3) := by decide +kernel
theorem dX9_readColour_86 : decode cX9_readColour 86 = .ok (.aload_n 1, 1) := by decide +kernel
theorem dX9_readColour_87 : decode cX9_readColour 87 = .ok (.invokevirtual 19, 3) := by decide +kernel
theorem dX9_readColour_90 : decode cX9_readColour 90 = .ok (.goto 6, 3) := by decide +kernel
theorem dX9_readColour_93 : decode cX9_readColour 93 = .ok (.sipush 255, 3) := by decide +kernel
theorem dX9_readColour_96 : decode cX9_readColour 96 = .ok (.istore 6, 2) := by decide +kernel
theorem dX9_readColour_98 : decode cX9_readColour 98 = .ok (.iload 5, 2) := by decide +kernel
theorem dX9_readColour_100 : decode cX9_readColour 100 = .ok (.iload 4, 2) := by decide +kernel
theorem dX9_readColour_102 : decode cX9_readColour 102 = .ok (.iload_n 3, 1) := by decide +kernel
theorem dX9_readColour_103 : decode cX9_readColour 103 = .ok (.aload_n 0, 1) := by decide +kernel
theorem dX9_readColour_104 : decode cX9_readColour 104 = .ok (.getfield 111, 3) := by decide +kernel
theorem dX9_readColour_107 : decode cX9_readColour 107 = .ok (.bipush 8, 2) := by decide +kernel
theorem dX9_readColour_109 : decode cX9_readColour 109 = .ok (.if_icmp .ne 8, 3) := by decide +kernel
theorem dX9_readColour_112 : decode cX9_readColour 112 = .ok (.iload 6, 2) := by decide +kernel
theorem dX9_readColour_114 : decode cX9_readColour 114 = .ok (.goto 6, 3) := by decide +kernel
theorem dX9_readColour_117 : decode cX9_readColour 117 = .ok (.sipush 255, 3) := by decide +kernel
theorem dX9_readColour_120 : decode cX9_readColour 120 = .ok (.invokestatic 155, 3) := by decide +kernel
theorem dX9_readColour_123 : decode cX9_readColour 123 = .ok (.ireturn, 1) := by decide +kernel
theorem dX9_readFooter_0 : decode cX9_readFooter 0 = .ok (.aload_n 0, 1) := by decide +kernel
theorem dX9_readFooter_1 : decode cX9_readFooter 1 = .ok (.getfield 74, 3) := by decide +kernel
theorem dX9_readFooter_4 : decode cX9_readFooter 4 = .ok (.istore_n 1, 1) := by decide +kernel
theorem dX9_readFooter_5 : decode cX9_readFooter 5 = .ok (.iload_n 1, 1) := by decide +kernel
theorem dX9_readFooter_6 : decode cX9_readFooter 6 = .ok (.aload_n 0, 1) := by decide +kernel
theorem dX9_readFooter_7 : decode cX9_readFooter 7 = .ok (.getfield 159, 3) := by decide +kernel
theorem dX9_readFooter_10 : decode cX9_readFooter 10 = .ok (.if_icmp .ne 4, 3) := by decide +kernel
theorem dX9_readFooter_13 : decode cX9_readFooter 13 = .ok (.return_, 1) := by decide +kernel
theorem dX9_readFooter_14 : decode cX9_readFooter 14 = .ok (.aload_n 0, 1) := by decide +kernel
theorem dX9_readFooter_15 : decode cX9_readFooter 15 = .ok (.getfield 159, 3) := by decide +kernel
theorem dX9_readFooter_18 : decode cX9_readFooter 18 = .ok (.iload_n 1, 1) := by decide +kernel
theorem dX9_readFooter_19 : decode cX9_readFooter 19 = .ok (.isub, 1) := by decide +kernel
theorem dX9_readFooter_20 : decode cX9_readFooter 20 = .ok (.bipush 26, 2) := by decide +kernel
theorem dX9_readFooter_22 : decode cX9_readFooter 22 = .ok (.if_icmp .ne 7, 3) := by decide +kernel
theorem dX9_readFooter_25 : decode cX9_readFooter 25 = .ok (.iconst 1, 1) := by decide +kernel
theorem dX9_readFooter_26 : decode cX9_readFooter 26 = .ok (.goto 4, 3) := by decide +kernel
theorem dX9_readFooter_29 : decode cX9_readFooter 29 = .ok (.iconst 0, 1) := by decide +kernel
theorem dX9_readFooter_30 : decode cX9_readFooter 30 = .ok (.istore_n 2, 1) := by decide +kernel
theorem dX9_readFooter_31 : decode cX9_readFooter 31 = .ok (.iconst 0, 1) := by decide +kernel
theorem dX9_readFooter_32 : decode cX9_readFooter 32 = .ok (.istore_n 3, 1) := by decide +kernel
theorem dX9_readFooter_33 : decode cX9_readFooter 33 = .ok (.iload_n 2, 1) := by decide +kernel
theorem dX9_readFooter_34 : decode cX9_readFooter 34 = .ok (.ifCond .eq 72, 3) := by decide +kernel
theorem dX9_readFooter_37 : decode cX9_readFooter 37 = .ok (.iload_n 3, 1) := by decide +kernel
theorem dX9_readFooter_38 : decode cX9_readFooter 38 = .ok (.bipush 26, 2) := by decide +kernel
theorem dX9_readFooter_40 : decode cX9_readFooter 40 = .ok (.if_icmp .ge 66, 3) := by decide +kernel
theorem dX9_readFooter_43 : decode cX9_readFooter 43 = .ok (.iload_n 3, 1) := by decide +kernel
theorem dX9_readFooter_44 : decode cX9_readFooter 44 = .ok (.bipush 8, 2) := by decide +kernel
theorem dX9_readFooter_46 : decode cX9_readFooter 46 = .ok (.isub, 1) := by decide +kernel
theorem dX9_readFooter_47 : decode cX9_readFooter 47 = .ok (.istore 4, 2) := by decide +kernel
theorem dX9_readFooter_49 : decode cX9_readFooter 49 = .ok (.iload 4, 2) := by decide +kernel
theorem dX9_readFooter_51 : decode cX9_readFooter 51 = .ok (.ifCond .lt 17, 3) := by decide +kernel
theorem dX9_readFooter_54 : decode cX9_readFooter 54 = .ok (.iload 4, 2) := by decide +kernel
theorem dX9_readFooter_56 : decode cX9_readFooter 56 = .ok (.ldc 162, 2) := by decide +kernel
theorem dX9_readFooter_58 : decode cX9_readFooter 58 = .ok (.invokevirtual 164, 3) := by decide +kernel
theorem dX9_readFooter_61 : decode cX9_readFooter 61 = .ok (.if_icmp .ge 7, 3) := by decide +kernel
theorem dX9_readFooter_64 : decode cX9_readFooter 64 = .ok (.iconst 1, 1) := by decide +kernel
theorem dX9_readFooter_65 : decode cX9_readFooter 65 = .ok (.goto 4, 3) := by decide +kernel
theorem dX9_readFooter_68 : decode cX9_readFooter 68 = .ok (.iconst 0, 1) := by decide +kernel
theorem dX9_readFooter_69 : decode cX9_readFooter 69 = .ok (.istore 5, 2) := by decide +kernel
theorem dX9_readFooter_71 : decode cX9_readFooter 71 = .ok (.aload_n 0, 1) := by decide +kernel
theorem dX9_readFooter_72 : decode cX9_readFooter 72 = .ok (.invokevirtual 19, 3) := by decide +kernel
theorem dX9_readFooter_75 : decode cX9_readFooter 75 = .ok (.iload 5, 2) := by decide +kernel
theorem dX9_readFooter_77 : decode cX9_readFooter 77 = .ok (.ifCond .eq 13, 3) := by decide +kernel
theorem dX9_readFooter_80 : decode cX9_readFooter 80 = .ok (.ldc 162, 2) := by decide +kernel
theorem dX9_readFooter_82 : decode cX9_readFooter 82 = .ok (.iload 4, 2) := by decide +kernel
theorem dX9_readFooter_84 : decode cX9_readFooter 84 = .ok (.invokevirtual 169, 3) := by decide +kernel
theorem dX9_readFooter_87 : decode cX9_readFooter 87 = .ok (.goto 4, 3) := by decide +kernel
theorem dX9_readFooter_90 : decode cX9_readFooter 90 = .ok (.iconst 0, 1) := by decide +kernel
theorem dX9_readFooter_91 : decode cX9_readFooter 91 = .ok (.if_icmp .ne 7, 3) := by decide +kernel
theorem dX9_readFooter_94 : decode cX9_readFooter 94 = .ok (.iconst 1, 1) := by decide +kernel
theorem dX9_readFooter_95 : decode cX9_readFooter 95 = .ok (.goto 4, 3) := by decide +kernel
theorem dX9_readFooter_98 : decode cX9_readFooter 98 = .ok (.iconst 0, 1) := by decide +kernel
theorem dX9_readFooter_99 : decode cX9_readFooter 99 = .ok (.istore_n 2, 1) := by decide +kernel
theorem dX9_readFooter_100 : decode cX9_readFooter 100 = .ok (.iinc 3 1, 3) := by decide +kernel
theorem dX9_readFooter_103 : decode cX9_readFooter 103 = .ok (.goto (-70), 3) := by decide +kernel
theorem dX9_readFooter_106 : decode cX9_readFooter 106 = .ok (.iload_n 2, 1) := by decide +kernel
theorem dX9_readFooter_107 : decode cX9_readFooter 107 = .ok (.ifCond .ne 9, 3) := by decide +kernel
theorem dX9_readFooter_110 : decode cX9_readFooter 110 = .ok (.aload_n 0, 1) := by decide +kernel
theorem dX9_readFooter_111 : decode cX9_readFooter 111 = .ok (.iconst 5, 1) := by decide +kernel
theorem dX9_readFooter_112 : decode cX9_readFooter 112 = .ok (.iload_n 1, 1) := by decide +kernel
theorem dX9_readFooter_113 : decode cX9_readFooter 113 = .ok (.invokevirtual 80, 3) := by decide +kernel
theorem dX9_readFooter_116 : decode cX9_readFooter 116 = .ok (.return_, 1) := by decide +kernel
theorem dX9_encode_0 : decode cX9_encode 0 = .ok (.iload_n 2, 1) := by decide +kernel
theorem dX9_encode_1 : decode cX9_encode 1 = .ok (.invokestatic 173, 3) := by decide +kernel
theorem dX9_encode_4 : decode cX9_encode 4 = .ok (.istore 4, 2) := by decide +kernel
theorem dX9_encode_6 : decode cX9_encode 6 = .ok (.iload_n 2, 1) := by decide +kernel
theorem dX9_encode_7 : decode cX9_encode 7 = .ok (.iconst 1, 1) := by decide +kernel
theorem dX9_encode_8 : decode cX9_encode 8 = .ok (.iand, 1) := by decide +kernel
theorem dX9_encode_9 : decode cX9_encode 9 = .ok (.iconst 1, 1) := by decide +kernel
theorem dX9_encode_10 : decode cX9_encode 10 = .ok (.if_icmp .ne 7, 3) := by decide +kernel
theorem dX9_encode_13 : decode cX9_encode 13 = .ok (.iconst 1, 1) := by decide +kernel
theorem dX9_encode_14 : decode cX9_encode 14 = .ok (.goto 4, 3) := by decide +kernel
theorem dX9_encode_17 : decode cX9_encode 17 = .ok (.iconst 0, 1) := by decide +kernel
theorem dX9_encode_18 : decode cX9_encode 18 = .ok (.istore 5, 2) := by decide +kernel
theorem dX9_encode_20 : decode cX9_encode 20 = .ok (.aload_n 1, 1) := by decide +kernel
theorem dX9_encode_21 : decode cX9_encode 21 = .ok (.invokevirtual 176, 3) := by decide +kernel
theorem dX9_encode_24 : decode cX9_encode 24 = .ok (.ifCond .eq 8, 3) := by decide +kernel
theorem dX9_encode_27 : decode cX9_encode 27 = .ok (.bipush 24, 2) := by decide +kernel
theorem dX9_encode_29 : decode cX9_encode 29 = .ok (.goto 5, 3) := by decide +kernel
theorem dX9_encode_32 : decode cX9_encode 32 = .ok (.bipush 32, 2) := by decide +kernel
theorem dX9_encode_34 : decode cX9_encode 34 = .ok (.istore 6, 2) := by decide +kernel
theorem dX9_encode_36 : decode cX9_encode 36 = .ok (.iconst 0, 1) := by decide +kernel
theorem dX9_encode_37 : decode cX9_encode 37 = .ok (.istore 7, 2) := by decide +kernel
theorem dX9_encode_39 : decode cX9_encode 39 = .ok (.iload 4, 2) := by decide +kernel
theorem dX9_encode_41 : decode cX9_encode 41 = .ok (.iconst 1, 1) := by decide +kernel
theorem dX9_encode_42 : decode cX9_encode 42 = .ok (.if_icmp .ne 20, 3) := by decide +kernel
theorem dX9_encode_45 : decode cX9_encode 45 = .ok (.aload_n 0, 1) := by decide +kernel
theorem dX9_encode_46 : decode cX9_encode 46 = .ok (.getfield 15, 3) := by decide +kernel
theorem dX9_encode_49 : decode cX9_encode 49 = .ok (.aload_n 1, 1) := by decide +kernel
theorem dX9_encode_50 : decode cX9_encode 50 = .ok (.invokevirtual 180, 3) := by decide +kernel
theorem dX9_encode_53 : decode cX9_encode 53 = .ok (.aload_n 0, 1) := by decide +kernel
theorem dX9_encode_54 : decode cX9_encode 54 = .ok (.getfield 15, 3) := by decide +kernel
theorem dX9_encode_57 : decode cX9_encode 57 = .ok (.getfield 186, 3) := by decide +kernel
theorem dX9_encode_60 : decode cX9_encode 60 = .ok (.istore 7, 2) := by decide +kernel
theorem dX9_encode_62 : decode cX9_encode 62 = .ok (.aload_n 3, 1) := by decide +kernel
theorem dX9_encode_63 : decode cX9_encode 63 = .ok (.iconst 0, 1) := by decide +kernel
theorem dX9_encode_64 : decode cX9_encode 64 = .ok (.invokevirtual 189, 3) := by decide +kernel
theorem dX9_encode_67 : decode cX9_encode 67 = .ok (.aload_n 3, 1) := by decide +kernel
theorem dX9_encode_68 : decode cX9_encode 68 = .ok (.iload 4, 2) := by decide +kernel
theorem dX9_encode_70 : decode cX9_encode 70 = .ok (.iconst 1, 1) := by decide +kernel
theorem dX9_encode_71 : decode cX9_encode 71 = .ok (.if_icmp .ne 7, 3) := by decide +kernel
theorem dX9_encode_74 : decode cX9_encode 74 = .ok (.iconst 1, 1) := by decide +kernel
theorem dX9_encode_75 : decode cX9_encode 75 = .ok (.goto 4, 3) := by decide +kernel
theorem dX9_encode_78 : decode cX9_encode 78 = .ok (.iconst 0, 1) := by decide +kernel
theorem dX9_encode_79 : decode cX9_encode 79 = .ok (.invokevirtual 189, 3) := by decide +kernel
theorem dX9_encode_82 : decode cX9_encode 82 = .ok (.aload_n 3, 1) := by decide +kernel
theorem dX9_encode_83 : decode cX9_encode 83 = .ok (.iload 5, 2) := by decide +kernel
theorem dX9_encode_85 : decode cX9_encode 85 = .ok (.ifCond .eq 11, 3) := by decide +kernel
theorem dX9_encode_88 : decode cX9_encode 88 = .ok (.iload 4, 2) := by decide +kernel
theorem dX9_encode_90 : decode cX9_encode 90 = .ok (.bipush 8, 2) := by decide +kernel
theorem dX9_encode_92 : decode cX9_encode 92 = .ok (.iadd, 1) := by decide +kernel
theorem dX9_encode_93 : decode cX9_encode 93 = .ok (.goto 5, 3) := by decide +kernel
theorem dX9_encode_96 : decode cX9_encode 96 = .ok (.iload 4, 2) := by decide +kernel
theorem dX9_encode_98 : decode cX9_encode 98 = .ok (.invokevirtual 189, 3) := by decide +kernel
theorem dX9_encode_101 : decode cX9_encode 101 = .ok (.aload_n 3, 1) := by decide +kernel
theorem dX9_encode_102 : decode cX9_encode 102 = .ok (.iconst 0, 1) := by decide +kernel
theorem dX9_encode_103 : decode cX9_encode 103 = .ok (.invokevirtual 194, 3) := by decide +kernel
theorem dX9_encode_106 : decode cX9_encode 106 = .ok (.aload_n 3, 1) := by decide +kernel
theorem dX9_encode_107 : decode cX9_encode 107 = .ok (.iload 7, 2) := by decide +kernel
theorem dX9_encode_109 : decode cX9_encode 109 = .ok (.invokevirtual 194, 3) := by decide +kernel
theorem dX9_encode_112 : decode cX9_encode 112 = .ok (.aload_n 3, 1) := by decide +kernel
theorem dX9_encode_113 : decode cX9_encode 113 = .ok (.iload 4, 2) := by decide +kernel
theorem dX9_encode_115 : decode cX9_encode 115 = .ok (.iconst 1, 1) := by decide +kernel
theorem dX9_encode_116 : decode cX9_encode 116 = .ok (.if_icmp .ne 8, 3) := by decide +kernel
theorem dX9_encode_119 : decode cX9_encode 119 = .ok (.iload 6, 2) := by decide +kernel
theorem dX9_encode_121 : decode cX9_encode 121 = .ok (.goto 4, 3) := by decide +kernel
theorem dX9_encode_124 : decode cX9_encode 124 = .ok (.iconst 0, 1) := by decide +kernel
theorem dX9_encode_125 : decode cX9_encode 125 = .ok (.invokevirtual 189, 3) := by decide +kernel
theorem dX9_encode_128 : decode cX9_encode 128 = .ok (.aload_n 3, 1) := by decide +kernel
theorem dX9_encode_129 : decode cX9_encode 129 = .ok (.iconst 0, 1) := by decide +kernel
theorem dX9_encode_130 : decode cX9_encode 130 = .ok (.invokevirtual 197, 3) := by decide +kernel
theorem dX9_encode_133 : decode cX9_encode 133 = .ok (.aload_n 3, 1) := by decide +kernel
theorem dX9_encode_134 : decode cX9_encode 134 = .ok (.aload_n 1, 1) := by decide +kernel
theorem dX9_encode_135 : decode cX9_encode 135 = .ok (.getfield 126, 3) := by decide +kernel
theorem dX9_encode_138 : decode cX9_encode 138 = .ok (.invokevirtual 194, 3) := by decide +kernel
theorem dX9_encode_141 : decode cX9_encode 141 = .ok (.aload_n 3, 1) := by decide +kernel
theorem dX9_encode_142 : decode cX9_encode 142 = .ok (.aload_n 1, 1) := by decide +kernel
theorem dX9_encode_143 : decode cX9_encode 143 = .ok (.getfield 121, 3) := by decide +kernel
theorem dX9_encode_146 : decode cX9_encode 146 = .ok (.invokevirtual 194, 3) := by decide +kernel
theorem dX9_encode_149 : decode cX9_encode 149 = .ok (.aload_n 3, 1) := by decide +kernel
theorem dX9_encode_150 : decode cX9_encode 150 = .ok (.iload 4, 2) := by decide +kernel
theorem dX9_encode_152 : decode cX9_encode 152 = .ok (.iconst 2, 1) := by decide +kernel
theorem dX9_encode_153 : decode cX9_encode 153 = .ok (.if_icmp .ne 8, 3) := by decide +kernel
theorem dX9_encode_156 : decode cX9_encode 156 = .ok (.iload 6, 2) := by decide +kernel
theorem dX9_encode_158 : decode cX9_encode 158 = .ok (.goto 5, 3) := by decide +kernel
theorem dX9_encode_161 : decode cX9_encode 161 = .ok (.bipush 8, 2) := by decide +kernel
theorem dX9_encode_163 : decode cX9_encode 163 = .ok (.invokevirtual 189, 3) := by decide +kernel
theorem dX9_encode_166 : decode cX9_encode 166 = .ok (.aload_n 3, 1) := by decide +kernel
theorem dX9_encode_167 : decode cX9_encode 167 = .ok (.iload 6, 2) := by decide +kernel
theorem dX9_encode_169 : decode cX9_encode 169 = .ok (.bipush 32, 2) := by decide +kernel
theorem dX9_encode_171 : decode cX9_encode 171 = .ok (.if_icmp .ne 8, 3) := by decide +kernel
theorem dX9_encode_174 : decode cX9_encode 174 = .ok (.bipush 40, 2) := by decide +kernel
theorem dX9_encode_176 : decode cX9_encode 176 = .ok (.goto 5, 3) := by decide +kernel
theorem dX9_encode_179 : decode cX9_encode 179 = .ok (.bipush 32, 2) := by decide +kernel
theorem dX9_encode_181 : decode cX9_encode 181 = .ok (.invokevirtual 189, 3) := by decide +kernel
theorem dX9_encode_184 : decode cX9_encode 184 = .ok (.iconst 0, 1) := by decide +kernel
theorem dX9_encode_185 : decode cX9_encode 185 = .ok (.istore 8, 2) := by decide +kernel
theorem dX9_encode_187 : decode cX9_encode 187 = .ok (.iload 8, 2) := by decide +kernel
theorem dX9_encode_189 : decode cX9_encode 189 = .ok (.iload 7, 2) := by decide +kernel
theorem dX9_encode_191 : decode cX9_encode 191 = .ok (.if_icmp .ge 24, 3) := by decide +kernel
theorem dX9_encode_194 : decode cX9_encode 194 = .ok (.aload_n 0, 1) := by decide +kernel
theorem dX9_encode_195 : decode cX9_encode 195 = .ok (.getfield 15, 3) := by decide +kernel
theorem dX9_encode_198 : decode cX9_encode 198 = .ok (.iload 8, 2) := by decide +kernel
theorem dX9_encode_200 : decode cX9_encode 200 = .ok (.invokevirtual 200, 3) := by decide +kernel
theorem dX9_encode_203 : decode cX9_encode 203 = .ok (.iload 6, 2) := by decide +kernel
theorem dX9_encode_205 : decode cX9_encode 205 = .ok (.aload_n 3, 1) := by decide +kernel
theorem dX9_encode_206 : decode cX9_encode 206 = .ok (.invokestatic 203, 3) := by decide +kernel
theorem dX9_encode_209 : decode cX9_encode 209 = .ok (.iinc 8 1, 3) := by decide +kernel
theorem dX9_encode_212 : decode cX9_encode 212 = .ok (.goto (-25), 3) := by decide +kernel
theorem dX9_encode_215 : decode cX9_encode 215 = .ok (.iconst 0, 1) := by decide +kernel
theorem dX9_encode_216 : decode cX9_encode 216 = .ok (.istore 8, 2) := by decide +kernel
theorem dX9_encode_218 : decode cX9_encode 218 = .ok (.iload 8, 2) := by decide +kernel
theorem dX9_encode_220 : decode cX9_encode 220 = .ok (.aload_n 1, 1) := by decide +kernel
theorem dX9_encode_221 : decode cX9_encode 221 = .ok (.getfield 121, 3) := by decide +kernel
theorem dX9_encode_224 : decode cX9_encode 224 = .ok (.if_icmp .ge 50, 3) := by decide +kernel
theorem dX9_encode_227 : decode cX9_encode 227 = .ok (.iload 5, 2) := by decide +kernel
theorem dX9_encode_229 : decode cX9_encode 229 = .ok (.ifCond .eq 18, 3) := by decide +kernel
theorem dX9_encode_232 : decode cX9_encode 232 = .ok (.aload_n 0, 1) := by decide +kernel
theorem dX9_encode_233 : decode cX9_encode 233 = .ok (.aload_n 1, 1) := by decide +kernel
theorem dX9_encode_234 : decode cX9_encode 234 = .ok (.iload 8, 2) := by decide +kernel
theorem dX9_encode_236 : decode cX9_encode 236 = .ok (.iload 4, 2) := by decide +kernel
theorem dX9_encode_238 : decode cX9_encode 238 = .ok (.iload 6, 2) := by decide +kernel
theorem dX9_encode_240 : decode cX9_encode 240 = .ok (.aload_n 3, 1) := by decide +kernel
theorem dX9_encode_241 : decode cX9_encode 241 = .ok (.invokevirtual 207, 3) := by decide +kernel
theorem dX9_encode_244 : decode cX9_encode 244 = .ok (.goto 24, 3) := by decide +kernel
theorem dX9_encode_247 : decode cX9_encode 247 = .ok (.aload_n 0, 1) := by decide +kernel
theorem dX9_encode_248 : decode cX9_encode 248 = .ok (.aload_n 1, 1) := by decide +kernel
theorem dX9_encode_249 : decode cX9_encode 249 = .ok (.iload 8, 2) := by decide +kernel
theorem dX9_encode_251 : decode cX9_encode 251 = .ok (.aload_n 1, 1) := by decide +kernel
theorem dX9_encode_252 : decode cX9_encode 252 = .ok (.getfield 126, 3) := by decide +kernel
theorem dX9_encode_255 : decode cX9_encode 255 = .ok (.imul, 1) := by decide +kernel
theorem dX9_encode_256 : decode cX9_encode 256 = .ok (.aload_n 1, 1) := by decide +kernel
theorem dX9_encode_257 : decode cX9_encode 257 = .ok (.getfield 126, 3) := by decide +kernel
theorem dX9_encode_260 : decode cX9_encode 260 = .ok (.iload 4, 2) := by decide +kernel
theorem dX9_encode_262 : decode cX9_encode 262 = .ok (.iload 6, 2) := by decide +kernel
theorem dX9_encode_264 : decode cX9_encode 264 = .ok (.aload_n 3, 1) := by decide +kernel
theorem dX9_encode_265 : decode cX9_encode 265 = .ok (.invokevirtual 211, 3) := by decide +kernel
theorem dX9_encode_268 : decode cX9_encode 268 = .ok (.iinc 8 1, 3) := by decide +kernel
theorem dX9_encode_271 : decode cX9_encode 271 = .ok (.goto (-53), 3) := by decide +kernel
theorem dX9_encode_274 : decode cX9_encode 274 = .ok (.return_, 1) := by decide +kernel
theorem dX9_kindOf_0 : decode cX9_kindOf 0 = .ok (.iload_n 0, 1) := by decide +kernel
theorem dX9_kindOf_1 : decode cX9_kindOf 1 = .ok (.bipush 14, 2) := by decide +kernel
theorem dX9_kindOf_3 : decode cX9_kindOf 3 = .ok (.if_icmp .lt 5, 3) := by decide +kernel
theorem dX9_kindOf_6 : decode cX9_kindOf 6 = .ok (.iconst 1, 1) := by decide +kernel
theorem dX9_kindOf_7 : decode cX9_kindOf 7 = .ok (.ireturn, 1) := by decide +kernel
theorem dX9_kindOf_8 : decode cX9_kindOf 8 = .ok (.iload_n 0, 1) := by decide +kernel
theorem dX9_kindOf_9 : decode cX9_kindOf 9 = .ok (.bipush 12, 2) := by decide +kernel
theorem dX9_kindOf_11 : decode cX9_kindOf 11 = .ok (.if_icmp .lt 7, 3) := by decide +kernel
theorem dX9_kindOf_14 : decode cX9_kindOf 14 = .ok (.iconst 3, 1) := by decide +kernel
theorem dX9_kindOf_15 : decode cX9_kindOf 15 = .ok (.goto 4, 3) := by decide +kernel
theorem dX9_kindOf_18 : decode cX9_kindOf 18 = .ok (.iconst 2, 1) := by decide +kernel
theorem dX9_kindOf_19 : decode cX9_kindOf 19 = .ok (.ireturn, 1) := by decide +kernel
theorem dX9_writeColour_0 : decode cX9_writeColour 0 = .ok (.aload_n 2, 1) := by decide +kernel
theorem dX9_writeColour_1 : decode cX9_writeColour 1 = .ok (.iload_n 0, 1) := by decide +kernel
theorem dX9_writeColour_2 : decode cX9_writeColour 2 = .ok (.invokestatic 215, 3) := by decide +kernel
theorem dX9_writeColour_5 : decode cX9_writeColour 5 = .ok (.invokevirtual 189, 3) := by decide +kernel
theorem dX9_writeColour_8 : decode cX9_writeColour 8 = .ok (.aload_n 2, 1) := by decide +kernel
theorem dX9_writeColour_9 : decode cX9_writeColour 9 = .ok (.iload_n 0, 1) := by decide +kernel
theorem dX9_writeColour_10 : decode cX9_writeColour 10 = .ok (.invokestatic 218, 3) := by decide +kernel
theorem dX9_writeColour_13 : decode cX9_writeColour 13 = .ok (.invokevirtual 189, 3) := by decide +kernel
theorem dX9_writeColour_16 : decode cX9_writeColour 16 = .ok (.aload_n 2, 1) := by decide +kernel
theorem dX9_writeColour_17 : decode cX9_writeColour 17 = .ok (.iload_n 0, 1) := by decide +kernel
theorem dX9_writeColour_18 : decode cX9_writeColour 18 = .ok (.invokestatic 221, 3) := by decide +kernel
theorem dX9_writeColour_21 : decode cX9_writeColour 21 = .ok (.invokevirtual 189, 3) := by decide +kernel
theorem dX9_writeColour_24 : decode cX9_writeColour 24 = .ok (.iload_n 1, 1) := by decide +kernel
theorem dX9_writeColour_25 : decode cX9_writeColour 25 = .ok (.bipush 32, 2) := by decide +kernel
theorem dX9_writeColour_27 : decode cX9_writeColour 27 = .ok (.if_icmp .ne 11, 3) := by decide +kernel
theorem dX9_writeColour_30 : decode cX9_writeColour 30 = .ok (.aload_n 2, 1) := by decide +kernel
theorem dX9_writeColour_31 : decode cX9_writeColour 31 = .ok (.iload_n 0, 1) := by decide +kernel
theorem dX9_writeColour_32 : decode cX9_writeColour 32 = .ok (.invokestatic 224, 3) := by decide +kernel
theorem dX9_writeColour_35 : decode cX9_writeColour 35 = .ok (.invokevirtual 189, 3) := by decide +kernel
theorem dX9_writeColour_38 : decode cX9_writeColour 38 = .ok (.return_, 1) := by decide +kernel
theorem dX9_writePixels_0 : decode cX9_writePixels 0 = .ok (.iconst 0, 1) := by decide +kernel
theorem dX9_writePixels_1 : decode cX9_writePixels 1 = .ok (.istore 7, 2) := by decide +kernel
theorem dX9_writePixels_3 : decode cX9_writePixels 3 = .ok (.iload 7, 2) := by decide +kernel
theorem dX9_writePixels_5 : decode cX9_writePixels 5 = .ok (.iload_n 3, 1) := by decide +kernel
theorem dX9_writePixels_6 : decode cX9_writePixels 6 = .ok (.if_icmp .ge 70, 3) := by decide +kernel
theorem dX9_writePixels_9 : decode cX9_writePixels 9 = .ok (.aload_n 1, 1) := by decide +kernel
theorem dX9_writePixels_10 : decode cX9_writePixels 10 = .ok (.iload_n 2, 1) := by decide +kernel
theorem dX9_writePixels_11 : decode cX9_writePixels 11 = .ok (.iload 7, 2) := by decide +kernel
theorem dX9_writePixels_13 : decode cX9_writePixels 13 = .ok (.iadd, 1) := by decide +kernel
theorem dX9_writePixels_14 : decode cX9_writePixels 14 = .ok (.invokevirtual 227, 3) := by decide +kernel
theorem dX9_writePixels_17 : decode cX9_writePixels 17 = .ok (.istore 8, 2) := by decide +kernel
theorem dX9_writePixels_19 : decode cX9_writePixels 19 = .ok (.iload 4, 2) := by decide +kernel
theorem dX9_writePixels_21 : decode cX9_writePixels 21 = .ok (.iconst 1, 1) := by decide +kernel
theorem dX9_writePixels_22 : decode cX9_writePixels 22 = .ok (.if_icmp .ne 20, 3) := by decide +kernel
theorem dX9_writePixels_25 : decode cX9_writePixels 25 = .ok (.aload 6, 2) := by decide +kernel
theorem dX9_writePixels_27 : decode cX9_writePixels 27 = .ok (.aload_n 0, 1) := by decide +kernel
theorem dX9_writePixels_28 : decode cX9_writePixels 28 = .ok (.getfield 15, 3) := by decide +kernel
theorem dX9_writePixels_31 : decode cX9_writePixels 31 = .ok (.iload 8, 2) := by decide +kernel
theorem dX9_writePixels_33 : decode cX9_writePixels 33 = .ok (.invokevirtual 228, 3) := by decide +kernel
theorem dX9_writePixels_36 : decode cX9_writePixels 36 = .ok (.invokevirtual 189, 3) := by decide +kernel
theorem dX9_writePixels_39 : decode cX9_writePixels 39 = .ok (.goto 31, 3) := by decide +kernel
theorem dX9_writePixels_42 : decode cX9_writePixels 42 = .ok (.iload 4, 2) := by decide +kernel
theorem dX9_writePixels_44 : decode cX9_writePixels 44 = .ok (.iconst 3, 1) := by decide +kernel
theorem dX9_writePixels_45 : decode cX9_writePixels 45 = .ok (.if_icmp .ne 16, 3) := by decide +kernel
theorem dX9_writePixels_48 : decode cX9_writePixels 48 = .ok (.aload 6, 2) := by decide +kernel
theorem dX9_writePixels_50 : decode cX9_writePixels 50 = .ok (.iload 8, 2) := by decide +kernel
theorem dX9_writePixels_52 : decode cX9_writePixels 52 = .ok (.invokestatic 221, 3) := by decide +kernel
theorem dX9_writePixels_55 : decode cX9_writePixels 55 = .ok (.invokevirtual 189, 3) := by decide +kernel
theorem dX9_writePixels_58 : decode cX9_writePixels 58 = .ok (.goto 12, 3) := by decide +kernel
theorem dX9_writePixels_61 : decode cX9_writePixels 61 = .ok (.iload 8, 2) := by decide +kernel
theorem dX9_writePixels_63 : decode cX9_writePixels 63 = .ok (.iload 5, 2) := by decide +kernel
theorem dX9_writePixels_65 : decode cX9_writePixels 65 = .ok (.aload 6, 2) := by decide +kernel
theorem dX9_writePixels_67 : decode cX9_writePixels 67 = .ok (.invokestatic 203, 3) := by decide +kernel
theorem dX9_writePixels_70 : decode cX9_writePixels 70 = .ok (.iinc 7 1, 3) := by decide +kernel
theorem dX9_writePixels_73 : decode cX9_writePixels 73 = .ok (.goto (-70), 3) := by decide +kernel
theorem dX9_writePixels_76 : decode cX9_writePixels 76 = .ok (.return_, 1) := by decide +kernel
theorem dX9_writePackets_0 : decode cX9_writePackets 0 = .ok (.iload_n 2, 1) := by decide +kernel
theorem dX9_writePackets_1 : decode cX9_writePackets 1 = .ok (.aload_n 1, 1) := by decide +kernel
theorem dX9_writePackets_2 : decode cX9_writePackets 2 = .ok (.getfield 126, 3) := by decide +kernel
theorem dX9_writePackets_5 : decode cX9_writePackets 5 = .ok (.imul, 1) := by decide +kernel
theorem dX9_writePackets_6 : decode cX9_writePackets 6 = .ok (.istore 6, 2) := by decide +kernel
theorem dX9_writePackets_8 : decode cX9_writePackets 8 = .ok (.iconst 1, 1) := by decide +kernel
theorem dX9_writePackets_9 : decode cX9_writePackets 9 = .ok (.istore 7, 2) := by decide +kernel
theorem dX9_writePackets_11 : decode cX9_writePackets 11 = .ok (.iconst 0, 1) := by decide +kernel
theorem dX9_writePackets_12 : decode cX9_writePackets 12 = .ok (.istore 8, 2) := by decide +kernel
theorem dX9_writePackets_14 : decode cX9_writePackets 14 = .ok (.iload 8, 2) := by decide +kernel
theorem dX9_writePackets_16 : decode cX9_writePackets 16 = .ok (.aload_n 1, 1) := by decide +kernel
theorem dX9_writePackets_17 : decode cX9_writePackets 17 = .ok (.getfield 126, 3) := by decide +kernel
theorem dX9_writePackets_20 : decode cX9_writePackets 20 = .ok (.if_icmp .ge 98, 3) := by decide +kernel
theorem dX9_writePackets_23 : decode cX9_writePackets 23 = .ok (.aload_n 1, 1) := by decide +kernel
theorem dX9_writePackets_24 : decode cX9_writePackets 24 = .ok (.iload_n 2, 1) := by decide +kernel
theorem dX9_writePackets_25 : decode cX9_writePackets 25 = .ok (.iload 8, 2) := by decide +kernel
theorem dX9_writePackets_27 : decode cX9_writePackets 27 = .ok (.invokestatic 231, 3) := by decide +kernel
theorem dX9_writePackets_30 : decode cX9_writePackets 30 = .ok (.ifCond .eq 42, 3) := by decide +kernel
theorem dX9_writePackets_33 : decode cX9_writePackets 33 = .ok (.aload_n 1, 1) := by decide +kernel
theorem dX9_writePackets_34 : decode cX9_writePackets 34 = .ok (.iload_n 2, 1) := by decide +kernel
theorem dX9_writePackets_35 : decode cX9_writePackets 35 = .ok (.iload 8, 2) := by decide +kernel
theorem dX9_writePackets_37 : decode cX9_writePackets 37 = .ok (.iconst 1, 1) := by decide +kernel
theorem dX9_writePackets_38 : decode cX9_writePackets 38 = .ok (.invokestatic 235, 3) := by decide +kernel
theorem dX9_writePackets_41 : decode cX9_writePackets 41 = .ok (.istore 7, 2) := by decide +kernel
theorem dX9_writePackets_43 : decode cX9_writePackets 43 = .ok (.aload 5, 2) := by decide +kernel
theorem dX9_writePackets_45 : decode cX9_writePackets 45 = .ok (.bipush 127, 2) := by decide +kernel
theorem dX9_writePackets_47 : decode cX9_writePackets 47 = .ok (.iload 7, 2) := by decide +kernel
theorem dX9_writePackets_49 : decode cX9_writePackets 49 = .ok (.iadd, 1) := by decide +kernel
theorem dX9_writePackets_50 : decode cX9_writePackets 50 = .ok (.invokevirtual 189, 3) := by decide +kernel
theorem dX9_writePackets_53 : decode cX9_writePackets 53 = .ok (.aload_n 0, 1) := by decide +kernel
theorem dX9_writePackets_54 : decode cX9_writePackets 54 = .ok (.aload_n 1, 1) := by decide +kernel
theorem dX9_writePackets_55 : decode cX9_writePackets 55 = .ok (.iload 6, 2) := by decide +kernel
theorem dX9_writePackets_57 : decode cX9_writePackets 57 = .ok (.iload 8, 2) := by decide +kernel
theorem dX9_writePackets_59 : decode cX9_writePackets 59 = .ok (.iadd, 1) := by decide +kernel
theorem dX9_writePackets_60 : decode cX9_writePackets 60 = .ok (.iconst 1, 1) := by decide +kernel
theorem dX9_writePackets_61 : decode cX9_writePackets 61 = .ok (.iload_n 3, 1) := by decide +kernel
theorem dX9_writePackets_62 : decode cX9_writePackets 62 = .ok (.iload 4, 2) := by decide +kernel
theorem dX9_writePackets_64 : decode cX9_writePackets 64 = .ok (.aload 5, 2) := by decide +kernel
theorem dX9_writePackets_66 : decode cX9_writePackets 66 = .ok (.invokevirtual 211, 3) := by decide +kernel
theorem dX9_writePackets_69 : decode cX9_writePackets 69 = .ok (.goto 39, 3) := by decide +kernel
theorem dX9_writePackets_72 : decode cX9_writePackets 72 = .ok (.aload_n 1, 1) := by decide +kernel
theorem dX9_writePackets_73 : decode cX9_writePackets 73 = .ok (.iload_n 2, 1) := by decide +kernel
theorem dX9_writePackets_74 : decode cX9_writePackets 74 = .ok (.iload 8, 2) := by decide +kernel
theorem dX9_writePackets_76 : decode cX9_writePackets 76 = .ok (.iconst 0, 1) := by decide +kernel
theorem dX9_writePackets_77 : decode cX9_writePackets 77 = .ok (.invokestatic 235, 3) := by decide +kernel
theorem dX9_writePackets_80 : decode cX9_writePackets 80 = .ok (.istore 7, 2) := by decide +kernel
theorem dX9_writePackets_82 : decode cX9_writePackets 82 = .ok (.aload 5, 2) := by decide +kernel
theorem dX9_writePackets_84 : decode cX9_writePackets 84 = .ok (.iload 7, 2) := by decide +kernel
theorem dX9_writePackets_86 : decode cX9_writePackets 86 = .ok (.iconst 1, 1) := by decide +kernel
theorem dX9_writePackets_87 : decode cX9_writePackets 87 = .ok (.isub, 1) := by decide +kernel
theorem dX9_writePackets_88 : decode cX9_writePackets 88 = .ok (.invokevirtual 189, 3) := by decide +kernel
theorem dX9_writePackets_91 : decode cX9_writePackets 91 = .ok (.aload_n 0, 1) := by decide +kernel
theorem dX9_writePackets_92 : decode cX9_writePackets 92 = .ok (.aload_n 1, 1) := by decide +kernel
theorem dX9_writePackets_93 : decode cX9_writePackets 93 = .ok (.iload 6, 2) := by decide +kernel
theorem dX9_writePackets_95 : decode cX9_writePackets 95 = .ok (.iload 8, 2) := by decide +kernel
theorem dX9_writePackets_97 : decode cX9_writePackets 97 = .ok (.iadd, 1) := by decide +kernel
theorem dX9_writePackets_98 : decode cX9_writePackets 98 = .ok (.iload 7, 2) := by decide +kernel
theorem dX9_writePackets_100 : decode cX9_writePackets 100 = .ok (.iload_n 3, 1) := by decide +kernel
theorem dX9_writePackets_101 : decode cX9_writePackets 101 = .ok (.iload 4, 2) := by decide +kernel
theorem dX9_writePackets_103 : decode cX9_writePackets 103 = .ok (.aload 5, 2) := by decide +kernel
theorem dX9_writePackets_105 : decode cX9_writePackets 105 = .ok (.invokevirtual 211, 3) := by decide +kernel
theorem dX9_writePackets_108 : decode cX9_writePackets 108 = .ok (.iload 8, 2) := by decide +kernel
theorem dX9_writePackets_110 : decode cX9_writePackets 110 = .ok (.iload 7, 2) := by decide +kernel
theorem dX9_writePackets_112 : decode cX9_writePackets 112 = .ok (.iadd, 1) := by decide +kernel
theorem dX9_writePackets_113 : decode cX9_writePackets 113 = .ok (.istore 8, 2) := by decide +kernel
theorem dX9_writePackets_115 : decode cX9_writePackets 115 = .ok (.goto (-101), 3) := by decide +kernel
theorem dX9_writePackets_118 : decode cX9_writePackets 118 = .ok (.return_, 1) := by decide +kernel
theorem dX9_isLikeNext_0 : decode cX9_isLikeNext 0 = .ok (.iload_n 1, 1) := by decide +kernel
theorem dX9_isLikeNext_1 : decode cX9_isLikeNext 1 = .ok (.aload_n 0, 1) := by decide +kernel
theorem dX9_isLikeNext_2 : decode cX9_isLikeNext 2 = .ok (.getfield 126, 3) := by decide +kernel
theorem dX9_isLikeNext_5 : decode cX9_isLikeNext 5 = .ok (.imul, 1) := by decide +kernel
theorem dX9_isLikeNext_6 : decode cX9_isLikeNext 6 = .ok (.iload_n 2, 1) := by decide +kernel
theorem dX9_isLikeNext_7 : decode cX9_isLikeNext 7 = .ok (.iadd, 1) := by decide +kernel
theorem dX9_isLikeNext_8 : decode cX9_isLikeNext 8 = .ok (.istore_n 3, 1) := by decide +kernel
theorem dX9_isLikeNext_9 : decode cX9_isLikeNext 9 = .ok (.iload_n 2, 1) := by decide +kernel
theorem dX9_isLikeNext_10 : decode cX9_isLikeNext 10 = .ok (.iconst 1, 1) := by decide +kernel
theorem dX9_isLikeNext_11 : decode cX9_isLikeNext 11 = .ok (.iadd, 1) := by decide +kernel
theorem dX9_isLikeNext_12 : decode cX9_isLikeNext 12 = .ok (.aload_n 0, 1) := by decide +kernel
theorem dX9_isLikeNext_13 : decode cX9_isLikeNext 13 = .ok (.getfield 126, 3) := by decide +kernel
theorem dX9_isLikeNext_16 : decode cX9_isLikeNext 16 = .ok (.if_icmp .ge 22, 3) := by decide +kernel
theorem dX9_isLikeNext_19 : decode cX9_isLikeNext 19 = .ok (.aload_n 0, 1) := by decide +kernel
theorem dX9_isLikeNext_20 : decode cX9_isLikeNext 20 = .ok (.iload_n 3, 1) := by decide +kernel
theorem dX9_isLikeNext_21 : decode cX9_isLikeNext 21 = .ok (.invokevirtual 227, 3) := by decide +kernel
theorem dX9_isLikeNext_24 : decode cX9_isLikeNext 24 = .ok (.aload_n 0, 1) := by decide +kernel
theorem dX9_isLikeNext_25 : decode cX9_isLikeNext 25 = .ok (.iload_n 3, 1) := by decide +kernel
theorem dX9_isLikeNext_26 : decode cX9_isLikeNext 26 = .ok (.iconst 1, 1) := by decide +kernel
theorem dX9_isLikeNext_27 : decode cX9_isLikeNext 27 = .ok (.iadd, 1) := by decide +kernel
theorem dX9_isLikeNext_28 : decode cX9_isLikeNext 28 = .ok (.invokevirtual 227, 3) := by decide +kernel
theorem dX9_isLikeNext_31 : decode cX9_isLikeNext 31 = .ok (.if_icmp .ne 7, 3) := by decide +kernel
theorem dX9_isLikeNext_34 : decode cX9_isLikeNext 34 = .ok (.iconst 1, 1) := by decide +kernel
theorem dX9_isLikeNext_35 : decode cX9_isLikeNext 35 = .ok (.goto 4, 3) := by decide +kernel
theorem dX9_isLikeNext_38 : decode cX9_isLikeNext 38 = .ok (.iconst 0, 1) := by decide +kernel
theorem dX9_isLikeNext_39 : decode cX9_isLikeNext 39 = .ok (.ireturn, 1) := by decide +kernel
theorem dX9_packetSize_0 : decode cX9_packetSize 0 = .ok (.sipush 128, 3) := by decide +kernel
theorem dX9_packetSize_3 : decode cX9_packetSize 3 = .ok (.aload_n 0, 1) := by decide +kernel
theorem dX9_packetSize_4 : decode cX9_packetSize 4 = .ok (.getfield 126, 3) := by decide +kernel
theorem dX9_packetSize_7 : decode cX9_packetSize 7 = .ok (.iload_n 2, 1) := by decide +kernel
theorem dX9_packetSize_8 : decode cX9_packetSize 8 = .ok (.isub, 1) := by decide +kernel
theorem dX9_packetSize_9 : decode cX9_packetSize 9 = .ok (.invokestatic 239, 3) := by decide +kernel
theorem dX9_packetSize_12 : decode cX9_packetSize 12 = .ok (.istore 4, 2) := by decide +kernel
theorem dX9_packetSize_14 : decode cX9_packetSize 14 = .ok (.iconst 1, 1) := by decide +kernel
theorem dX9_packetSize_15 : decode cX9_packetSize 15 = .ok (.istore 5, 2) := by decide +kernel
theorem dX9_packetSize_17 : decode cX9_packetSize 17 = .ok (.iload 5, 2) := by decide +kernel
theorem dX9_packetSize_19 : decode cX9_packetSize 19 = .ok (.iload 4, 2) := by decide +kernel
theorem dX9_packetSize_21 : decode cX9_packetSize 21 = .ok (.if_icmp .ge 45, 3) := by decide +kernel
theorem dX9_packetSize_24 : decode cX9_packetSize 24 = .ok (.iload_n 3, 1) := by decide +kernel
theorem dX9_packetSize_25 : decode cX9_packetSize 25 = .ok (.ifCond .eq 20, 3) := by decide +kernel
theorem dX9_packetSize_28 : decode cX9_packetSize 28 = .ok (.aload_n 0, 1) := by decide +kernel
theorem dX9_packetSize_29 : decode cX9_packetSize 29 = .ok (.iload_n 1, 1) := by decide +kernel
theorem dX9_packetSize_30 : decode cX9_packetSize 30 = .ok (.iload_n 2, 1) := by decide +kernel
theorem dX9_packetSize_31 : decode cX9_packetSize 31 = .ok (.iload 5, 2) := by decide +kernel
theorem dX9_packetSize_33 : decode cX9_packetSize 33 = .ok (.iadd, 1) := by decide +kernel
theorem dX9_packetSize_34 : decode cX9_packetSize 34 = .ok (.iconst 1, 1) := by decide +kernel
theorem dX9_packetSize_35 : decode cX9_packetSize 35 = .ok (.isub, 1) := by decide +kernel
theorem dX9_packetSize_36 : decode cX9_packetSize 36 = .ok (.invokestatic 231, 3) := by decide +kernel
theorem dX9_packetSize_39 : decode cX9_packetSize 39 = .ok (.ifCond .ne 21, 3) := by decide +kernel
theorem dX9_packetSize_42 : decode cX9_packetSize 42 = .ok (.goto 15, 3) := by decide +kernel
theorem dX9_packetSize_45 : decode cX9_packetSize 45 = .ok (.aload_n 0, 1) := by decide +kernel
theorem dX9_packetSize_46 : decode cX9_packetSize 46 = .ok (.iload_n 1, 1) := by decide +kernel
theorem dX9_packetSize_47 : decode cX9_packetSize 47 = .ok (.iload_n 2, 1) := by decide +kernel
theorem dX9_packetSize_48 : decode cX9_packetSize 48 = .ok (.iload 5, 2) := by decide +kernel
theorem dX9_packetSize_50 : decode cX9_packetSize 50 = .ok (.iadd, 1) := by decide +kernel
theorem dX9_packetSize_51 : decode cX9_packetSize 51 = .ok (.invokestatic 231, 3) := by decide +kernel
theorem dX9_packetSize_54 : decode cX9_packetSize 54 = .ok (.ifCond .eq 6, 3) := by decide +kernel
theorem dX9_packetSize_57 : decode cX9_packetSize 57 = .ok (.iload 5, 2) := by decide +kernel
theorem dX9_packetSize_59 : decode cX9_packetSize 59 = .ok (.ireturn, 1) := by decide +kernel
theorem dX9_packetSize_60 : decode cX9_packetSize 60 = .ok (.iinc 5 1, 3) := by decide +kernel
theorem dX9_packetSize_63 : decode cX9_packetSize 63 = .ok (.goto (-46), 3) := by decide +kernel
theorem dX9_packetSize_66 : decode cX9_packetSize 66 = .ok (.iload 4, 2) := by decide +kernel
theorem dX9_packetSize_68 : decode cX9_packetSize 68 = .ok (.ireturn, 1) := by decide +kernel
