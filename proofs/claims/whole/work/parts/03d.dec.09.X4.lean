theorem dX4_init_0 : decode cX4_init 0 = .ok (.aload_n 0, 1) := by decide +kernel
theorem dX4_init_1 : decode cX4_init 1 = .ok (.invokespecial 3, 3) := by decide +kernel
theorem dX4_init_4 : decode cX4_init 4 = .ok (.aload_n 0, 1) := by decide +kernel
theorem dX4_init_5 : decode cX4_init 5 = .ok (.sipush 256, 3) := by decide +kernel
theorem dX4_init_8 : decode cX4_init 8 = .ok (.newarray .int, 2) := by decide +kernel
theorem dX4_init_10 : decode cX4_init 10 = .ok (.putfield 9, 3) := by decide +kernel
theorem dX4_init_13 : decode cX4_init 13 = .ok (.aload_n 0, 1) := by decide +kernel
theorem dX4_init_14 : decode cX4_init 14 = .ok (.aload_n 1, 1) := by decide +kernel
theorem dX4_init_15 : decode cX4_init 15 = .ok (.putfield 15, 3) := by decide +kernel
theorem dX4_init_18 : decode cX4_init 18 = .ok (.return_, 1) := by decide +kernel
theorem dX4_decode_0 : decode cX4_decode 0 = .ok (.aload_n 1, 1) := by decide +kernel
theorem dX4_decode_1 : decode cX4_decode 1 = .ok (.bipush 10, 2) := by decide +kernel
theorem dX4_decode_3 : decode cX4_decode 3 = .ok (.invokevirtual 19, 3) := by decide +kernel
theorem dX4_decode_6 : decode cX4_decode 6 = .ok (.aload_n 0, 1) := by decide +kernel
theorem dX4_decode_7 : decode cX4_decode 7 = .ok (.aload_n 1, 1) := by decide +kernel
theorem dX4_decode_8 : decode cX4_decode 8 = .ok (.invokevirtual 25, 3) := by decide +kernel
theorem dX4_decode_11 : decode cX4_decode 11 = .ok (.aload_n 1, 1) := by decide +kernel
theorem dX4_decode_12 : decode cX4_decode 12 = .ok (.iconst 1, 1) := by decide +kernel
theorem dX4_decode_13 : decode cX4_decode 13 = .ok (.invokevirtual 19, 3) := by decide +kernel
theorem dX4_decode_16 : decode cX4_decode 16 = .ok (.aload_n 0, 1) := by decide +kernel
theorem dX4_decode_17 : decode cX4_decode 17 = .ok (.aload_n 1, 1) := by decide +kernel
theorem dX4_decode_18 : decode cX4_decode 18 = .ok (.invokevirtual 29, 3) := by decide +kernel
theorem dX4_decode_21 : decode cX4_decode 21 = .ok (.aload_n 1, 1) := by decide +kernel
theorem dX4_decode_22 : decode cX4_decode 22 = .ok (.aload_n 2, 1) := by decide +kernel
theorem dX4_decode_23 : decode cX4_decode 23 = .ok (.invokestatic 32, 3) := by decide +kernel
theorem dX4_decode_26 : decode cX4_decode 26 = .ok (.aload_n 1, 1) := by decide +kernel
theorem dX4_decode_27 : decode cX4_decode 27 = .ok (.iconst 4, 1) := by decide +kernel
theorem dX4_decode_28 : decode cX4_decode 28 = .ok (.invokevirtual 36, 3) := by decide +kernel
theorem dX4_decode_31 : decode cX4_decode 31 = .ok (.aload_n 0, 1) := by decide +kernel
theorem dX4_decode_32 : decode cX4_decode 32 = .ok (.aload_n 1, 1) := by decide +kernel
theorem dX4_decode_33 : decode cX4_decode 33 = .ok (.bipush 16, 2) := by decide +kernel
theorem dX4_decode_35 : decode cX4_decode 35 = .ok (.invokevirtual 39, 3) := by decide +kernel
theorem dX4_decode_38 : decode cX4_decode 38 = .ok (.aload_n 1, 1) := by decide +kernel
theorem dX4_decode_39 : decode cX4_decode 39 = .ok (.iconst 1, 1) := by decide +kernel
theorem dX4_decode_40 : decode cX4_decode 40 = .ok (.invokevirtual 36, 3) := by decide +kernel
theorem dX4_decode_43 : decode cX4_decode 43 = .ok (.aload_n 0, 1) := by decide +kernel
theorem dX4_decode_44 : decode cX4_decode 44 = .ok (.aload_n 1, 1) := by decide +kernel
theorem dX4_decode_45 : decode cX4_decode 45 = .ok (.invokevirtual 43, 3) := by decide +kernel
theorem dX4_decode_48 : decode cX4_decode 48 = .ok (.aload_n 0, 1) := by decide +kernel
theorem dX4_decode_49 : decode cX4_decode 49 = .ok (.aload_n 1, 1) := by decide +kernel
theorem dX4_decode_50 : decode cX4_decode 50 = .ok (.aload_n 2, 1) := by decide +kernel
theorem dX4_decode_51 : decode cX4_decode 51 = .ok (.getfield 46, 3) := by decide +kernel
theorem dX4_decode_54 : decode cX4_decode 54 = .ok (.invokevirtual 52, 3) := by decide +kernel
theorem dX4_decode_57 : decode cX4_decode 57 = .ok (.aload_n 1, 1) := by decide +kernel
theorem dX4_decode_58 : decode cX4_decode 58 = .ok (.bipush 60, 2) := by decide +kernel
theorem dX4_decode_60 : decode cX4_decode 60 = .ok (.invokevirtual 36, 3) := by decide +kernel
theorem dX4_decode_63 : decode cX4_decode 63 = .ok (.aload_n 2, 1) := by decide +kernel
theorem dX4_decode_64 : decode cX4_decode 64 = .ok (.iconst 0, 1) := by decide +kernel
theorem dX4_decode_65 : decode cX4_decode 65 = .ok (.invokevirtual 55, 3) := by decide +kernel
theorem dX4_decode_68 : decode cX4_decode 68 = .ok (.iconst 0, 1) := by decide +kernel
theorem dX4_decode_69 : decode cX4_decode 69 = .ok (.istore_n 3, 1) := by decide +kernel
theorem dX4_decode_70 : decode cX4_decode 70 = .ok (.iload_n 3, 1) := by decide +kernel
theorem dX4_decode_71 : decode cX4_decode 71 = .ok (.aload_n 2, 1) := by decide +kernel
theorem dX4_decode_72 : decode cX4_decode 72 = .ok (.getfield 58, 3) := by decide +kernel
theorem dX4_decode_75 : decode cX4_decode 75 = .ok (.if_icmp .ge 16, 3) := by decide +kernel
theorem dX4_decode_78 : decode cX4_decode 78 = .ok (.aload_n 0, 1) := by decide +kernel
theorem dX4_decode_79 : decode cX4_decode 79 = .ok (.aload_n 1, 1) := by decide +kernel
theorem dX4_decode_80 : decode cX4_decode 80 = .ok (.aload_n 2, 1) := by decide +kernel
theorem dX4_decode_81 : decode cX4_decode 81 = .ok (.iload_n 3, 1) := by decide +kernel
theorem dX4_decode_82 : decode cX4_decode 82 = .ok (.invokevirtual 61, 3) := by decide +kernel
theorem dX4_decode_85 : decode cX4_decode 85 = .ok (.iinc 3 1, 3) := by decide +kernel
theorem dX4_decode_88 : decode cX4_decode 88 = .ok (.goto (-18), 3) := by decide +kernel
theorem dX4_decode_91 : decode cX4_decode 91 = .ok (.aload_n 0, 1) := by decide +kernel
theorem dX4_decode_92 : decode cX4_decode 92 = .ok (.getfield 65, 3) := by decide +kernel
theorem dX4_decode_95 : decode cX4_decode 95 = .ok (.bipush 8, 2) := by decide +kernel
theorem dX4_decode_97 : decode cX4_decode 97 = .ok (.if_icmp .ne 25, 3) := by decide +kernel
theorem dX4_decode_100 : decode cX4_decode 100 = .ok (.aload_n 0, 1) := by decide +kernel
theorem dX4_decode_101 : decode cX4_decode 101 = .ok (.getfield 68, 3) := by decide +kernel
theorem dX4_decode_104 : decode cX4_decode 104 = .ok (.iconst 1, 1) := by decide +kernel
theorem dX4_decode_105 : decode cX4_decode 105 = .ok (.if_icmp .ne 17, 3) := by decide +kernel
theorem dX4_decode_108 : decode cX4_decode 108 = .ok (.aload_n 1, 1) := by decide +kernel
theorem dX4_decode_109 : decode cX4_decode 109 = .ok (.bipush 12, 2) := by decide +kernel
theorem dX4_decode_111 : decode cX4_decode 111 = .ok (.invokevirtual 19, 3) := by decide +kernel
theorem dX4_decode_114 : decode cX4_decode 114 = .ok (.aload_n 0, 1) := by decide +kernel
theorem dX4_decode_115 : decode cX4_decode 115 = .ok (.aload_n 1, 1) := by decide +kernel
theorem dX4_decode_116 : decode cX4_decode 116 = .ok (.sipush 256, 3) := by decide +kernel
theorem dX4_decode_119 : decode cX4_decode 119 = .ok (.invokevirtual 39, 3) := by decide +kernel
theorem dX4_decode_122 : decode cX4_decode 122 = .ok (.aload_n 1, 1) := by decide +kernel
theorem dX4_decode_123 : decode cX4_decode 123 = .ok (.invokevirtual 71, 3) := by decide +kernel
theorem dX4_decode_126 : decode cX4_decode 126 = .ok (.aload_n 0, 1) := by decide +kernel
theorem dX4_decode_127 : decode cX4_decode 127 = .ok (.aload_n 2, 1) := by decide +kernel
theorem dX4_decode_128 : decode cX4_decode 128 = .ok (.invokevirtual 74, 3) := by decide +kernel
theorem dX4_decode_131 : decode cX4_decode 131 = .ok (.aload_n 0, 1) := by decide +kernel
theorem dX4_decode_132 : decode cX4_decode 132 = .ok (.aload_n 0, 1) := by decide +kernel
theorem dX4_decode_133 : decode cX4_decode 133 = .ok (.getfield 65, 3) := by decide +kernel
theorem dX4_decode_136 : decode cX4_decode 136 = .ok (.putfield 78, 3) := by decide +kernel
theorem dX4_decode_139 : decode cX4_decode 139 = .ok (.aload_n 0, 1) := by decide +kernel
theorem dX4_decode_140 : decode cX4_decode 140 = .ok (.aload_n 0, 1) := by decide +kernel
theorem dX4_decode_141 : decode cX4_decode 141 = .ok (.getfield 68, 3) := by decide +kernel
theorem dX4_decode_144 : decode cX4_decode 144 = .ok (.putfield 81, 3) := by decide +kernel
theorem dX4_decode_147 : decode cX4_decode 147 = .ok (.aload_n 0, 1) := by decide +kernel
theorem dX4_decode_148 : decode cX4_decode 148 = .ok (.aload_n 0, 1) := by decide +kernel
theorem dX4_decode_149 : decode cX4_decode 149 = .ok (.getfield 84, 3) := by decide +kernel
theorem dX4_decode_152 : decode cX4_decode 152 = .ok (.putfield 87, 3) := by decide +kernel
theorem dX4_decode_155 : decode cX4_decode 155 = .ok (.return_, 1) := by decide +kernel
theorem dX4_readVersion_0 : decode cX4_readVersion 0 = .ok (.aload_n 1, 1) := by decide +kernel
theorem dX4_readVersion_1 : decode cX4_readVersion 1 = .ok (.getfield 90, 3) := by decide +kernel
theorem dX4_readVersion_4 : decode cX4_readVersion 4 = .ok (.istore_n 2, 1) := by decide +kernel
theorem dX4_readVersion_5 : decode cX4_readVersion 5 = .ok (.aload_n 0, 1) := by decide +kernel
theorem dX4_readVersion_6 : decode cX4_readVersion 6 = .ok (.aload_n 1, 1) := by decide +kernel
theorem dX4_readVersion_7 : decode cX4_readVersion 7 = .ok (.invokevirtual 93, 3) := by decide +kernel
theorem dX4_readVersion_10 : decode cX4_readVersion 10 = .ok (.putfield 97, 3) := by decide +kernel
theorem dX4_readVersion_13 : decode cX4_readVersion 13 = .ok (.aload_n 0, 1) := by decide +kernel
theorem dX4_readVersion_14 : decode cX4_readVersion 14 = .ok (.getfield 97, 3) := by decide +kernel
theorem dX4_readVersion_17 : decode cX4_readVersion 17 = .ok (.iconst 5, 1) := by decide +kernel
theorem dX4_readVersion_18 : decode cX4_readVersion 18 = .ok (.if_icmp .gt 11, 3) := by decide +kernel
theorem dX4_readVersion_21 : decode cX4_readVersion 21 = .ok (.aload_n 0, 1) := by decide +kernel
theorem dX4_readVersion_22 : decode cX4_readVersion 22 = .ok (.getfield 97, 3) := by decide +kernel
theorem dX4_readVersion_25 : decode cX4_readVersion 25 = .ok (.iconst 1, 1) := by decide +kernel
theorem dX4_readVersion_26 : decode cX4_readVersion 26 = .ok (.if_icmp .ne 9, 3) := by decide +kernel
theorem dX4_readVersion_29 : decode cX4_readVersion 29 = .ok (.aload_n 1, 1) := by decide +kernel
theorem dX4_readVersion_30 : decode cX4_readVersion 30 = .ok (.iconst 2, 1) := by decide +kernel
theorem dX4_readVersion_31 : decode cX4_readVersion 31 = .ok (.iload_n 2, 1) := by decide +kernel
theorem dX4_readVersion_32 : decode cX4_readVersion 32 = .ok (.invokevirtual 100, 3) := by decide +kernel
theorem dX4_readVersion_35 : decode cX4_readVersion 35 = .ok (.return_, 1) := by decide +kernel
theorem dX4_readBits_0 : decode cX4_readBits 0 = .ok (.aload_n 1, 1) := by decide +kernel
theorem dX4_readBits_1 : decode cX4_readBits 1 = .ok (.getfield 90, 3) := by decide +kernel
theorem dX4_readBits_4 : decode cX4_readBits 4 = .ok (.istore_n 2, 1) := by decide +kernel
theorem dX4_readBits_5 : decode cX4_readBits 5 = .ok (.aload_n 0, 1) := by decide +kernel
theorem dX4_readBits_6 : decode cX4_readBits 6 = .ok (.aload_n 1, 1) := by decide +kernel
theorem dX4_readBits_7 : decode cX4_readBits 7 = .ok (.invokevirtual 93, 3) := by decide +kernel
theorem dX4_readBits_10 : decode cX4_readBits 10 = .ok (.putfield 65, 3) := by decide +kernel
theorem dX4_readBits_13 : decode cX4_readBits 13 = .ok (.aload_n 0, 1) := by decide +kernel
theorem dX4_readBits_14 : decode cX4_readBits 14 = .ok (.getfield 65, 3) := by decide +kernel
theorem dX4_readBits_17 : decode cX4_readBits 17 = .ok (.iconst 1, 1) := by decide +kernel
theorem dX4_readBits_18 : decode cX4_readBits 18 = .ok (.if_icmp .eq 35, 3) := by decide +kernel
theorem dX4_readBits_21 : decode cX4_readBits 21 = .ok (.aload_n 0, 1) := by decide +kernel
theorem dX4_readBits_22 : decode cX4_readBits 22 = .ok (.getfield 65, 3) := by decide +kernel
theorem dX4_readBits_25 : decode cX4_readBits 25 = .ok (.iconst 2, 1) := by decide +kernel
theorem dX4_readBits_26 : decode cX4_readBits 26 = .ok (.if_icmp .eq 27, 3) := by decide +kernel
theorem dX4_readBits_29 : decode cX4_readBits 29 = .ok (.aload_n 0, 1) := by decide +kernel
theorem dX4_readBits_30 : decode cX4_readBits 30 = .ok (.getfield 65, 3) := by decide +kernel
theorem dX4_readBits_33 : decode cX4_readBits 33 = .ok (.iconst 4, 1) := by decide +kernel
theorem dX4_readBits_34 : decode cX4_readBits 34 = .ok (.if_icmp .eq 19, 3) := by decide +kernel
theorem dX4_readBits_37 : decode cX4_readBits 37 = .ok (.aload_n 0, 1) := by decide +kernel
theorem dX4_readBits_38 : decode cX4_readBits 38 = .ok (.getfield 65, 3) := by decide +kernel
theorem dX4_readBits_41 : decode cX4_readBits 41 = .ok (.bipush 8, 2) := by decide +kernel
theorem dX4_readBits_43 : decode cX4_readBits 43 = .ok (.if_icmp .eq 10, 3) := by decide +kernel
theorem dX4_readBits_46 : decode cX4_readBits 46 = .ok (.aload_n 1, 1) := by decide +kernel
theorem dX4_readBits_47 : decode cX4_readBits 47 = .ok (.iconst 2, 1) := by decide +kernel
theorem dX4_readBits_48 : decode cX4_readBits 48 = .ok (.iload_n 2, 1) := by decide +kernel
theorem dX4_readBits_49 : decode cX4_readBits 49 = .ok (.invokevirtual 100, 3) := by decide +kernel
theorem dX4_readBits_52 : decode cX4_readBits 52 = .ok (.return_, 1) := by decide +kernel
theorem dX4_readBits_53 : decode cX4_readBits 53 = .ok (.aload_n 0, 1) := by decide +kernel
theorem dX4_readBits_54 : decode cX4_readBits 54 = .ok (.bipush 8, 2) := by decide +kernel
theorem dX4_readBits_56 : decode cX4_readBits 56 = .ok (.aload_n 0, 1) := by decide +kernel
theorem dX4_readBits_57 : decode cX4_readBits 57 = .ok (.getfield 65, 3) := by decide +kernel
theorem dX4_readBits_60 : decode cX4_readBits 60 = .ok (.idiv, 1) := by decide +kernel
theorem dX4_readBits_61 : decode cX4_readBits 61 = .ok (.putfield 104, 3) := by decide +kernel
theorem dX4_readBits_64 : decode cX4_readBits 64 = .ok (.return_, 1) := by decide +kernel
theorem dX4_readSize_0 : decode cX4_readSize 0 = .ok (.aload_n 0, 1) := by decide +kernel
theorem dX4_readSize_1 : decode cX4_readSize 1 = .ok (.invokevirtual 107, 3) := by decide +kernel
theorem dX4_readSize_4 : decode cX4_readSize 4 = .ok (.istore_n 2, 1) := by decide +kernel
theorem dX4_readSize_5 : decode cX4_readSize 5 = .ok (.aload_n 0, 1) := by decide +kernel
theorem dX4_readSize_6 : decode cX4_readSize 6 = .ok (.invokevirtual 107, 3) := by decide +kernel
theorem dX4_readSize_9 : decode cX4_readSize 9 = .ok (.istore_n 3, 1) := by decide +kernel
theorem dX4_readSize_10 : decode cX4_readSize 10 = .ok (.aload_n 0, 1) := by decide +kernel
theorem dX4_readSize_11 : decode cX4_readSize 11 = .ok (.getfield 90, 3) := by decide +kernel
theorem dX4_readSize_14 : decode cX4_readSize 14 = .ok (.istore 4, 2) := by decide +kernel
theorem dX4_readSize_16 : decode cX4_readSize 16 = .ok (.aload_n 0, 1) := by decide +kernel
theorem dX4_readSize_17 : decode cX4_readSize 17 = .ok (.invokevirtual 107, 3) := by decide +kernel
theorem dX4_readSize_20 : decode cX4_readSize 20 = .ok (.istore 5, 2) := by decide +kernel
theorem dX4_readSize_22 : decode cX4_readSize 22 = .ok (.iload 5, 2) := by decide +kernel
theorem dX4_readSize_24 : decode cX4_readSize 24 = .ok (.iload_n 2, 1) := by decide +kernel
theorem dX4_readSize_25 : decode cX4_readSize 25 = .ok (.if_icmp .ge 10, 3) := by decide +kernel
theorem dX4_readSize_28 : decode cX4_readSize 28 = .ok (.aload_n 0, 1) := by decide +kernel
theorem dX4_readSize_29 : decode cX4_readSize 29 = .ok (.iconst 2, 1) := by decide +kernel
theorem dX4_readSize_30 : decode cX4_readSize 30 = .ok (.iload 4, 2) := by decide +kernel
theorem dX4_readSize_32 : decode cX4_readSize 32 = .ok (.invokevirtual 100, 3) := by decide +kernel
theorem dX4_readSize_35 : decode cX4_readSize 35 = .ok (.aload_n 0, 1) := by decide +kernel
theorem dX4_readSize_36 : decode cX4_readSize 36 = .ok (.getfield 90, 3) := by decide +kernel
theorem dX4_readSize_39 : decode cX4_readSize 39 = .ok (.istore 4, 2) := by decide +kernel
theorem dX4_readSize_41 : decode cX4_readSize 41 = .ok (.aload_n 0, 1) := by decide +kernel
theorem dX4_readSize_42 : decode cX4_readSize 42 = .ok (.invokevirtual 107, 3) := by decide +kernel
theorem dX4_readSize_45 : decode cX4_readSize 45 = .ok (.istore 6, 2) := by decide +kernel
theorem dX4_readSize_47 : decode cX4_readSize 47 = .ok (.iload 6, 2) := by decide +kernel
theorem dX4_readSize_49 : decode cX4_readSize 49 = .ok (.iload_n 3, 1) := by decide +kernel
theorem dX4_readSize_50 : decode cX4_readSize 50 = .ok (.if_icmp .ge 10, 3) := by decide +kernel
theorem dX4_readSize_53 : decode cX4_readSize 53 = .ok (.aload_n 0, 1) := by decide +kernel
theorem dX4_readSize_54 : decode cX4_readSize 54 = .ok (.iconst 2, 1) := by decide +kernel
theorem dX4_readSize_55 : decode cX4_readSize 55 = .ok (.iload 4, 2) := by decide +kernel
theorem dX4_readSize_57 : decode cX4_readSize 57 = .ok (.invokevirtual 100, 3) := by decide +kernel
theorem dX4_readSize_60 : decode cX4_readSize 60 = .ok (.aload_n 0, 1) := by decide +kernel
theorem dX4_readSize_61 : decode cX4_readSize 61 = .ok (.aload_n 1, 1) := by decide +kernel
theorem dX4_readSize_62 : decode cX4_readSize 62 = .ok (.iload 5, 2) := by decide +kernel
theorem dX4_readSize_64 : decode cX4_readSize 64 = .ok (.iload_n 2, 1) := by decide +kernel
theorem dX4_readSize_65 : decode cX4_readSize 65 = .ok (.isub, 1) := by decide +kernel
theorem dX4_readSize_66 : decode cX4_readSize 66 = .ok (.iconst 1, 1) := by decide +kernel
theorem dX4_readSize_67 : decode cX4_readSize 67 = .ok (.iadd, 1) := by decide +kernel
theorem dX4_readSize_68 : decode cX4_readSize 68 = .ok (.i2l, 1) := by decide +kernel
theorem dX4_readSize_69 : decode cX4_readSize 69 = .ok (.iload 6, 2) := by decide +kernel
theorem dX4_readSize_71 : decode cX4_readSize 71 = .ok (.iload_n 3, 1) := by decide +kernel
theorem dX4_readSize_72 : decode cX4_readSize 72 = .ok (.isub, 1) := by decide +kernel
theorem dX4_readSize_73 : decode cX4_readSize 73 = .ok (.iconst 1, 1) := by decide +kernel
theorem dX4_readSize_74 : decode cX4_readSize 74 = .ok (.iadd, 1) := by decide +kernel
theorem dX4_readSize_75 : decode cX4_readSize 75 = .ok (.i2l, 1) := by decide +kernel
theorem dX4_readSize_76 : decode cX4_readSize 76 = .ok (.iload 4, 2) := by decide +kernel
theorem dX4_readSize_78 : decode cX4_readSize 78 = .ok (.invokevirtual 110, 3) := by decide +kernel
theorem dX4_readSize_81 : decode cX4_readSize 81 = .ok (.return_, 1) := by decide +kernel
theorem dX4_readColours_0 : decode cX4_readColours 0 = .ok (.iconst 0, 1) := by decide +kernel
theorem dX4_readColours_1 : decode cX4_readColours 1 = .ok (.istore_n 3, 1) := by decide +kernel
theorem dX4_readColours_2 : decode cX4_readColours 2 = .ok (.iload_n 3, 1) := by decide +kernel
theorem dX4_readColours_3 : decode cX4_readColours 3 = .ok (.iload_n 2, 1) := by decide +kernel
theorem dX4_readColours_4 : decode cX4_readColours 4 = .ok (.if_icmp .ge 48, 3) := by decide +kernel
theorem dX4_readColours_7 : decode cX4_readColours 7 = .ok (.iload_n 3, 1) := by decide +kernel
theorem dX4_readColours_8 : decode cX4_readColours 8 = .ok (.sipush 256, 3) := by decide +kernel
theorem dX4_readColours_11 : decode cX4_readColours 11 = .ok (.if_icmp .ge 41, 3) := by decide +kernel
theorem dX4_readColours_14 : decode cX4_readColours 14 = .ok (.aload_n 1, 1) := by decide +kernel
theorem dX4_readColours_15 : decode cX4_readColours 15 = .ok (.invokevirtual 93, 3) := by decide +kernel
theorem dX4_readColours_18 : decode cX4_readColours 18 = .ok (.istore 4, 2) := by decide +kernel
theorem dX4_readColours_20 : decode cX4_readColours 20 = .ok (.aload_n 1, 1) := by decide +kernel
theorem dX4_readColours_21 : decode cX4_readColours 21 = .ok (.invokevirtual 93, 3) := by decide +kernel
theorem dX4_readColours_24 : decode cX4_readColours 24 = .ok (.istore 5, 2) := by decide +kernel
theorem dX4_readColours_26 : decode cX4_readColours 26 = .ok (.aload_n 0, 1) := by decide +kernel
theorem dX4_readColours_27 : decode cX4_readColours 27 = .ok (.getfield 9, 3) := by decide +kernel
theorem dX4_readColours_30 : decode cX4_readColours 30 = .ok (.iload_n 3, 1) := by decide +kernel
theorem dX4_readColours_31 : decode cX4_readColours 31 = .ok (.iload 4, 2) := by decide +kernel
theorem dX4_readColours_33 : decode cX4_readColours 33 = .ok (.iload 5, 2) := by decide +kernel
theorem dX4_readColours_35 : decode cX4_readColours 35 = .ok (.aload_n 1, 1) := by decide +kernel
theorem dX4_readColours_36 : decode cX4_readColours 36 = .ok (.invokevirtual 93, 3) := by decide +kernel
theorem dX4_readColours_39 : decode cX4_readColours 39 = .ok (.sipush 255, 3) := by decide +kernel
theorem dX4_readColours_42 : decode cX4_readColours 42 = .ok (.invokestatic 114, 3) := by decide +kernel
theorem dX4_readColours_45 : decode cX4_readColours 45 = .ok (.iastore, 1) := by decide +kernel
theorem dX4_readColours_46 : decode cX4_readColours 46 = .ok (.iinc 3 1, 3) := by decide +kernel
theorem dX4_readColours_49 : decode cX4_readColours 49 = .ok (.goto (-47), 3) := by decide +kernel
theorem dX4_readColours_52 : decode cX4_readColours 52 = .ok (.return_, 1) := by decide +kernel
theorem dX4_readPlanes_0 : decode cX4_readPlanes 0 = .ok (.aload_n 1, 1) := by decide +kernel
theorem dX4_readPlanes_1 : decode cX4_readPlanes 1 = .ok (.getfield 90, 3) := by decide +kernel
theorem dX4_readPlanes_4 : decode cX4_readPlanes 4 = .ok (.istore_n 2, 1) := by decide +kernel
theorem dX4_readPlanes_5 : decode cX4_readPlanes 5 = .ok (.aload_n 0, 1) := by decide +kernel
theorem dX4_readPlanes_6 : decode cX4_readPlanes 6 = .ok (.aload_n 1, 1) := by decide +kernel
theorem dX4_readPlanes_7 : decode cX4_readPlanes 7 = .ok (.invokevirtual 93, 3) := by decide +kernel
theorem dX4_readPlanes_10 : decode cX4_readPlanes 10 = .ok (.putfield 68, 3) := by decide +kernel
theorem dX4_readPlanes_13 : decode cX4_readPlanes 13 = .ok (.aload_n 0, 1) := by decide +kernel
theorem dX4_readPlanes_14 : decode cX4_readPlanes 14 = .ok (.getfield 68, 3) := by decide +kernel
theorem dX4_readPlanes_17 : decode cX4_readPlanes 17 = .ok (.iconst 1, 1) := by decide +kernel
theorem dX4_readPlanes_18 : decode cX4_readPlanes 18 = .ok (.if_icmp .ne 7, 3) := by decide +kernel
theorem dX4_readPlanes_21 : decode cX4_readPlanes 21 = .ok (.iconst 1, 1) := by decide +kernel
theorem dX4_readPlanes_22 : decode cX4_readPlanes 22 = .ok (.goto 4, 3) := by decide +kernel
theorem dX4_readPlanes_25 : decode cX4_readPlanes 25 = .ok (.iconst 0, 1) := by decide +kernel
theorem dX4_readPlanes_26 : decode cX4_readPlanes 26 = .ok (.istore_n 3, 1) := by decide +kernel
theorem dX4_readPlanes_27 : decode cX4_readPlanes 27 = .ok (.aload_n 0, 1) := by decide +kernel
theorem dX4_readPlanes_28 : decode cX4_readPlanes 28 = .ok (.getfield 65, 3) := by decide +kernel
theorem dX4_readPlanes_31 : decode cX4_readPlanes 31 = .ok (.iconst 1, 1) := by decide +kernel
theorem dX4_readPlanes_32 : decode cX4_readPlanes 32 = .ok (.if_icmp .ne 28, 3) := by decide +kernel
theorem dX4_readPlanes_35 : decode cX4_readPlanes 35 = .ok (.aload_n 0, 1) := by decide +kernel
theorem dX4_readPlanes_36 : decode cX4_readPlanes 36 = .ok (.getfield 68, 3) := by decide +kernel
theorem dX4_readPlanes_39 : decode cX4_readPlanes 39 = .ok (.iconst 1, 1) := by decide +kernel
theorem dX4_readPlanes_40 : decode cX4_readPlanes 40 = .ok (.if_icmp .lt 15, 3) := by decide +kernel
theorem dX4_readPlanes_43 : decode cX4_readPlanes 43 = .ok (.aload_n 0, 1) := by decide +kernel
theorem dX4_readPlanes_44 : decode cX4_readPlanes 44 = .ok (.getfield 68, 3) := by decide +kernel
theorem dX4_readPlanes_47 : decode cX4_readPlanes 47 = .ok (.iconst 4, 1) := by decide +kernel
theorem dX4_readPlanes_48 : decode cX4_readPlanes 48 = .ok (.if_icmp .gt 7, 3) := by decide +kernel
theorem dX4_readPlanes_51 : decode cX4_readPlanes 51 = .ok (.iconst 1, 1) := by decide +kernel
theorem dX4_readPlanes_52 : decode cX4_readPlanes 52 = .ok (.goto 4, 3) := by decide +kernel
theorem dX4_readPlanes_55 : decode cX4_readPlanes 55 = .ok (.iconst 0, 1) := by decide +kernel
theorem dX4_readPlanes_56 : decode cX4_readPlanes 56 = .ok (.istore_n 3, 1) := by decide +kernel
theorem dX4_readPlanes_57 : decode cX4_readPlanes 57 = .ok (.goto 42, 3) := by decide +kernel
theorem dX4_readPlanes_60 : decode cX4_readPlanes 60 = .ok (.aload_n 0, 1) := by decide +kernel
theorem dX4_readPlanes_61 : decode cX4_readPlanes 61 = .ok (.getfield 65, 3) := by decide +kernel
theorem dX4_readPlanes_64 : decode cX4_readPlanes 64 = .ok (.bipush 8, 2) := by decide +kernel
theorem dX4_readPlanes_66 : decode cX4_readPlanes 66 = .ok (.if_icmp .ne 33, 3) := by decide +kernel
theorem dX4_readPlanes_69 : decode cX4_readPlanes 69 = .ok (.aload_n 0, 1) := by decide +kernel
theorem dX4_readPlanes_70 : decode cX4_readPlanes 70 = .ok (.getfield 68, 3) := by decide +kernel
theorem dX4_readPlanes_73 : decode cX4_readPlanes 73 = .ok (.iconst 1, 1) := by decide +kernel
theorem dX4_readPlanes_74 : decode cX4_readPlanes 74 = .ok (.if_icmp .eq 11, 3) := by decide +kernel
theorem dX4_readPlanes_77 : decode cX4_readPlanes 77 = .ok (.aload_n 0, 1) := by decide +kernel
theorem dX4_readPlanes_78 : decode cX4_readPlanes 78 = .ok (.getfield 68, 3) := by decide +kernel
theorem dX4_readPlanes_81 : decode cX4_readPlanes 81 = .ok (.iconst 3, 1) := by decide +kernel
theorem dX4_readPlanes_82 : decode cX4_readPlanes 82 = .ok (.if_icmp .ne 15, 3) := by decide +kernel
theorem dX4_readPlanes_85 : decode cX4_readPlanes 85 = .ok (.aload_n 0, 1) := by decide +kernel
theorem dX4_readPlanes_86 : decode cX4_readPlanes 86 = .ok (.getfield 97, 3) := by decide +kernel
theorem dX4_readPlanes_89 : decode cX4_readPlanes 89 = .ok (.iconst 5, 1) := by decide +kernel
theorem dX4_readPlanes_90 : decode cX4_readPlanes 90 = .ok (.if_icmp .ne 7, 3) := by decide +kernel
theorem dX4_readPlanes_93 : decode cX4_readPlanes 93 = .ok (.iconst 1, 1) := by decide +kernel
theorem dX4_readPlanes_94 : decode cX4_readPlanes 94 = .ok (.goto 4, 3) := by decide +kernel
theorem dX4_readPlanes_97 : decode cX4_readPlanes 97 = .ok (.iconst 0, 1) := by decide +kernel
theorem dX4_readPlanes_98 : decode cX4_readPlanes 98 = .ok (.istore_n 3, 1) := by decide +kernel
theorem dX4_readPlanes_99 : decode cX4_readPlanes 99 = .ok (.iload_n 3, 1) := by decide +kernel
theorem dX4_readPlanes_100 : decode cX4_readPlanes 100 = .ok (.ifCond .ne 9, 3) := by decide +kernel
theorem dX4_readPlanes_103 : decode cX4_readPlanes 103 = .ok (.aload_n 1, 1) := by decide +kernel
theorem dX4_readPlanes_104 : decode cX4_readPlanes 104 = .ok (.iconst 2, 1) := by decide +kernel
theorem dX4_readPlanes_105 : decode cX4_readPlanes 105 = .ok (.iload_n 2, 1) := by decide +kernel
theorem dX4_readPlanes_106 : decode cX4_readPlanes 106 = .ok (.invokevirtual 100, 3) := by decide +kernel
theorem dX4_readPlanes_109 : decode cX4_readPlanes 109 = .ok (.return_, 1) := by decide +kernel
theorem dX4_readStep_0 : decode cX4_readStep 0 = .ok (.aload_n 1, 1) := by decide +kernel
theorem dX4_readStep_1 : decode cX4_readStep 1 = .ok (.getfield 90, 3) := by decide +kernel
theorem dX4_readStep_4 : decode cX4_readStep 4 = .ok (.istore_n 3, 1) := by decide +kernel
theorem dX4_readStep_5 : decode cX4_readStep 5 = .ok (.aload_n 0, 1) := by decide +kernel
theorem dX4_readStep_6 : decode cX4_readStep 6 = .ok (.aload_n 1, 1) := by decide +kernel
theorem dX4_readStep_7 : decode cX4_readStep 7 = .ok (.invokevirtual 107, 3) := by decide +kernel
theorem dX4_readStep_10 : decode cX4_readStep 10 = .ok (.putfield 84, 3) := by decide +kernel
theorem dX4_readStep_13 : decode cX4_readStep 13 = .ok (.aload_n 0, 1) := by decide +kernel
theorem dX4_readStep_14 : decode cX4_readStep 14 = .ok (.getfield 84, 3) := by decide +kernel
theorem dX4_readStep_17 : decode cX4_readStep 17 = .ok (.iconst 1, 1) := by decide +kernel
theorem dX4_readStep_18 : decode cX4_readStep 18 = .ok (.iand, 1) := by decide +kernel
theorem dX4_readStep_19 : decode cX4_readStep 19 = .ok (.iconst 1, 1) := by decide +kernel
theorem dX4_readStep_20 : decode cX4_readStep 20 = .ok (.if_icmp .eq 22, 3) := by decide +kernel
theorem dX4_readStep_23 : decode cX4_readStep 23 = .ok (.aload_n 0, 1) := by decide +kernel
theorem dX4_readStep_24 : decode cX4_readStep 24 = .ok (.getfield 84, 3) := by decide +kernel
theorem dX4_readStep_27 : decode cX4_readStep 27 = .ok (.iload_n 2, 1) := by decide +kernel
theorem dX4_readStep_28 : decode cX4_readStep 28 = .ok (.aload_n 0, 1) := by decide +kernel
theorem dX4_readStep_29 : decode cX4_readStep 29 = .ok (.getfield 65, 3) := by decide +kernel
theorem dX4_readStep_32 : decode cX4_readStep 32 = .ok (.imul, 1) := by decide +kernel
theorem dX4_readStep_33 : decode cX4_readStep 33 = .ok (.bipush 7, 2) := by decide +kernel
theorem dX4_readStep_35 : decode cX4_readStep 35 = .ok (.iadd, 1) := by decide +kernel
theorem dX4_readStep_36 : decode cX4_readStep 36 = .ok (.bipush 8, 2) := by decide +kernel
theorem dX4_readStep_38 : decode cX4_readStep 38 = .ok (.idiv, 1) := by decide +kernel
theorem dX4_readStep_39 : decode cX4_readStep 39 = .ok (.if_icmp .ge 9, 3) := by decide +kernel
theorem dX4_readStep_42 : decode cX4_readStep 42 = .ok (.aload_n 1, 1) := by decide +kernel
theorem dX4_readStep_43 : decode cX4_readStep 43 = .ok (.iconst 2, 1) := by decide +kernel
theorem dX4_readStep_44 : decode cX4_readStep 44 = .ok (.iload_n 3, 1) := by decide +kernel
theorem dX4_readStep_45 : decode cX4_readStep 45 = .ok (.invokevirtual 100, 3) := by decide +kernel
theorem dX4_readStep_48 : decode cX4_readStep 48 = .ok (.return_, 1) := by decide +kernel
theorem dX4_readLine_0 : decode cX4_readLine 0 = .ok (.aload_n 0, 1) := by decide +kernel
theorem dX4_readLine_1 : decode cX4_readLine 1 = .ok (.getfield 68, 3) := by decide +kernel
theorem dX4_readLine_4 : decode cX4_readLine 4 = .ok (.aload_n 0, 1) := by decide +kernel
theorem dX4_readLine_5 : decode cX4_readLine 5 = .ok (.getfield 84, 3) := by decide +kernel
theorem dX4_readLine_8 : decode cX4_readLine 8 = .ok (.imul, 1) := by decide +kernel
theorem dX4_readLine_9 : decode cX4_readLine 9 = .ok (.istore 4, 2) := by decide +kernel
theorem dX4_readLine_11 : decode cX4_readLine 11 = .ok (.iconst 0, 1) := by decide +kernel
theorem dX4_readLine_12 : decode cX4_readLine 12 = .ok (.istore 5, 2) := by decide +kernel
theorem dX4_readLine_14 : decode cX4_readLine 14 = .ok (.iconst 0, 1) := by decide +kernel
theorem dX4_readLine_15 : decode cX4_readLine 15 = .ok (.istore 6, 2) := by decide +kernel
theorem dX4_readLine_17 : decode cX4_readLine 17 = .ok (.iconst 1, 1) := by decide +kernel
theorem dX4_readLine_18 : decode cX4_readLine 18 = .ok (.istore 7, 2) := by decide +kernel
theorem dX4_readLine_20 : decode cX4_readLine 20 = .ok (.iconst 0, 1) := by decide +kernel
theorem dX4_readLine_21 : decode cX4_readLine 21 = .ok (.istore 8, 2) := by decide +kernel
theorem dX4_readLine_23 : decode cX4_readLine 23 = .ok (.iload 8, 2) := by decide +kernel
theorem dX4_readLine_25 : decode cX4_readLine 25 = .ok (.iload 4, 2) := by decide +kernel
theorem dX4_readLine_27 : decode cX4_readLine 27 = .ok (.if_icmp .ge 122, 3) := by decide +kernel
theorem dX4_readLine_30 : decode cX4_readLine 30 = .ok (.aload_n 1, 1) := by decide +kernel
theorem dX4_readLine_31 : decode cX4_readLine 31 = .ok (.getfield 90, 3) := by decide +kernel
theorem dX4_readLine_34 : decode cX4_readLine 34 = .ok (.istore 9, 2) := by decide +kernel
theorem dX4_readLine_36 : decode cX4_readLine 36 = .ok (.aload_n 1, 1) := by decide +kernel
theorem dX4_readLine_37 : decode cX4_readLine 37 = .ok (.invokevirtual 93, 3) := by decide +kernel
theorem dX4_readLine_40 : decode cX4_readLine 40 = .ok (.istore 10, 2) := by decide +kernel
theorem dX4_readLine_42 : decode cX4_readLine 42 = .ok (.iload 10, 2) := by decide +kernel
theorem dX4_readLine_44 : decode cX4_readLine 44 = .ok (.sipush 192, 3) := by decide +kernel
theorem dX4_readLine_47 : decode cX4_readLine 47 = .ok (.isub, 1) := by decide +kernel
theorem dX4_readLine_48 : decode cX4_readLine 48 = .ok (.iconst 1, 1) := by decide +kernel
theorem dX4_readLine_49 : decode cX4_readLine 49 = .ok (.invokestatic 118, 3) := by decide +kernel
theorem dX4_readLine_52 : decode cX4_readLine 52 = .ok (.istore 7, 2) := by decide +kernel
theorem dX4_readLine_54 : decode cX4_readLine 54 = .ok (.iload 10, 2) := by decide +kernel
theorem dX4_readLine_56 : decode cX4_readLine 56 = .ok (.sipush 192, 3) := by decide +kernel
theorem dX4_readLine_59 : decode cX4_readLine 59 = .ok (.if_icmp .eq 13, 3) := by decide +kernel
theorem dX4_readLine_62 : decode cX4_readLine 62 = .ok (.iload 7, 2) := by decide +kernel
theorem dX4_readLine_64 : decode cX4_readLine 64 = .ok (.iload 4, 2) := by decide +kernel
theorem dX4_readLine_66 : decode cX4_readLine 66 = .ok (.iload 8, 2) := by decide +kernel
theorem dX4_readLine_68 : decode cX4_readLine 68 = .ok (.isub, 1) := by decide +kernel
theorem dX4_readLine_69 : decode cX4_readLine 69 = .ok (.if_icmp .le 10, 3) := by decide +kernel
theorem dX4_readLine_72 : decode cX4_readLine 72 = .ok (.aload_n 1, 1) := by decide +kernel
theorem dX4_readLine_73 : decode cX4_readLine 73 = .ok (.iconst 4, 1) := by decide +kernel
theorem dX4_readLine_74 : decode cX4_readLine 74 = .ok (.iload 9, 2) := by decide +kernel
theorem dX4_readLine_76 : decode cX4_readLine 76 = .ok (.invokevirtual 100, 3) := by decide +kernel
theorem dX4_readLine_79 : decode cX4_readLine 79 = .ok (.iload 10, 2) := by decide +kernel
theorem dX4_readLine_81 : decode cX4_readLine 81 = .ok (.sipush 192, 3) := by decide +kernel
theorem dX4_readLine_84 : decode cX4_readLine 84 = .ok (.if_icmp .le 9, 3) := by decide +kernel
theorem dX4_readLine_87 : decode cX4_readLine 87 = .ok (.aload_n 1, 1) := by decide +kernel
theorem dX4_readLine_88 : decode cX4_readLine 88 = .ok (.invokevirtual 93, 3) := by decide +kernel
theorem dX4_readLine_91 : decode cX4_readLine 91 = .ok (.istore 10, 2) := by decide +kernel
theorem dX4_readLine_93 : decode cX4_readLine 93 = .ok (.iconst 0, 1) := by decide +kernel
theorem dX4_readLine_94 : decode cX4_readLine 94 = .ok (.istore 11, 2) := by decide +kernel
theorem dX4_readLine_96 : decode cX4_readLine 96 = .ok (.iload 11, 2) := by decide +kernel
theorem dX4_readLine_98 : decode cX4_readLine 98 = .ok (.iload 7, 2) := by decide +kernel
theorem dX4_readLine_100 : decode cX4_readLine 100 = .ok (.if_icmp .ge 39, 3) := by decide +kernel
theorem dX4_readLine_103 : decode cX4_readLine 103 = .ok (.aload_n 0, 1) := by decide +kernel
theorem dX4_readLine_104 : decode cX4_readLine 104 = .ok (.aload_n 2, 1) := by decide +kernel
theorem dX4_readLine_105 : decode cX4_readLine 105 = .ok (.iload_n 3, 1) := by decide +kernel
theorem dX4_readLine_106 : decode cX4_readLine 106 = .ok (.iload 5, 2) := by decide +kernel
theorem dX4_readLine_108 : decode cX4_readLine 108 = .ok (.iload 6, 2) := by decide +kernel
theorem dX4_readLine_110 : decode cX4_readLine 110 = .ok (.iload 10, 2) := by decide +kernel
theorem dX4_readLine_112 : decode cX4_readLine 112 = .ok (.invokevirtual 124, 3) := by decide +kernel
theorem dX4_readLine_115 : decode cX4_readLine 115 = .ok (.iinc 6 1, 3) := by decide +kernel
theorem dX4_readLine_118 : decode cX4_readLine 118 = .ok (.iload 6, 2) := by decide +kernel
theorem dX4_readLine_120 : decode cX4_readLine 120 = .ok (.aload_n 0, 1) := by decide +kernel
theorem dX4_readLine_121 : decode cX4_readLine 121 = .ok (.getfield 84, 3) := by decide +kernel
theorem dX4_readLine_124 : decode cX4_readLine 124 = .ok (.if_icmp .ne 9, 3) := by decide +kernel
theorem dX4_readLine_127 : decode cX4_readLine 127 = .ok (.iconst 0, 1) := by decide +kernel
theorem dX4_readLine_128 : decode cX4_readLine 128 = .ok (.istore 6, 2) := by decide +kernel
theorem dX4_readLine_130 : decode cX4_readLine 130 = .ok (.iinc 5 1, 3) := by decide +kernel
theorem dX4_readLine_133 : decode cX4_readLine 133 = .ok (.iinc 11 1, 3) := by decide +kernel
theorem dX4_readLine_136 : decode cX4_readLine 136 = .ok (.goto (-40), 3) := by decide +kernel
theorem dX4_readLine_139 : decode cX4_readLine 139 = .ok (.iload 8, 2) := by decide +kernel
theorem dX4_readLine_141 : decode cX4_readLine 141 = .ok (.iload 7, 2) := by decide +kernel
theorem dX4_readLine_143 : decode cX4_readLine 143 = .ok (.iadd, 1) := by decide +kernel
theorem dX4_readLine_144 : decode cX4_readLine 144 = .ok (.istore 8, 2) := by decide +kernel
theorem dX4_readLine_146 : decode cX4_readLine 146 = .ok (.goto (-123), 3) := by decide +kernel
theorem dX4_readLine_149 : decode cX4_readLine 149 = .ok (.return_, 1) := by decide +kernel
theorem dX4_addBits_0 : decode cX4_addBits 0 = .ok (.iload 4, 2) := by decide +kernel
theorem dX4_addBits_2 : decode cX4_addBits 2 = .ok (.aload_n 0, 1) := by decide +kernel
theorem dX4_addBits_3 : decode cX4_addBits 3 = .ok (.getfield 104, 3) := by decide +kernel
theorem dX4_addBits_6 : decode cX4_addBits 6 = .ok (.imul, 1) := by decide +kernel
theorem dX4_addBits_7 : decode cX4_addBits 7 = .ok (.istore 6, 2) := by decide +kernel
theorem dX4_addBits_9 : decode cX4_addBits 9 = .ok (.bipush 8, 2) := by decide +kernel
theorem dX4_addBits_11 : decode cX4_addBits 11 = .ok (.aload_n 0, 1) := by decide +kernel
theorem dX4_addBits_12 : decode cX4_addBits 12 = .ok (.getfield 65, 3) := by decide +kernel
theorem dX4_addBits_15 : decode cX4_addBits 15 = .ok (.isub, 1) := by decide +kernel
theorem dX4_addBits_16 : decode cX4_addBits 16 = .ok (.istore 7, 2) := by decide +kernel
theorem dX4_addBits_18 : decode cX4_addBits 18 = .ok (.iload 7, 2) := by decide +kernel
theorem dX4_addBits_20 : decode cX4_addBits 20 = .ok (.ifCond .lt 76, 3) := by decide +kernel
theorem dX4_addBits_23 : decode cX4_addBits 23 = .ok (.iload 6, 2) := by decide +kernel
theorem dX4_addBits_25 : decode cX4_addBits 25 = .ok (.aload_n 1, 1) := by decide +kernel
theorem dX4_addBits_26 : decode cX4_addBits 26 = .ok (.getfield 46, 3) := by decide +kernel
theorem dX4_addBits_29 : decode cX4_addBits 29 = .ok (.if_icmp .ge 67, 3) := by decide +kernel
theorem dX4_addBits_32 : decode cX4_addBits 32 = .ok (.iload_n 2, 1) := by decide +kernel
theorem dX4_addBits_33 : decode cX4_addBits 33 = .ok (.aload_n 1, 1) := by decide +kernel
theorem dX4_addBits_34 : decode cX4_addBits 34 = .ok (.getfield 46, 3) := by decide +kernel
theorem dX4_addBits_37 : decode cX4_addBits 37 = .ok (.imul, 1) := by decide +kernel
theorem dX4_addBits_38 : decode cX4_addBits 38 = .ok (.iload 6, 2) := by decide +kernel
theorem dX4_addBits_40 : decode cX4_addBits 40 = .ok (.iadd, 1) := by decide +kernel
theorem dX4_addBits_41 : decode cX4_addBits 41 = .ok (.istore 8, 2) := by decide +kernel
theorem dX4_addBits_43 : decode cX4_addBits 43 = .ok (.iload 5, 2) := by decide +kernel
theorem dX4_addBits_45 : decode cX4_addBits 45 = .ok (.iload 7, 2) := by decide +kernel
theorem dX4_addBits_47 : decode cX4_addBits 47 = .ok (.ishr, 1) := by decide +kernel
theorem dX4_addBits_48 : decode cX4_addBits 48 = .ok (.iconst 1, 1) := by decide +kernel
theorem dX4_addBits_49 : decode cX4_addBits 49 = .ok (.aload_n 0, 1) := by decide +kernel
theorem dX4_addBits_50 : decode cX4_addBits 50 = .ok (.getfield 65, 3) := by decide +kernel
theorem dX4_addBits_53 : decode cX4_addBits 53 = .ok (.ishl, 1) := by decide +kernel
theorem dX4_addBits_54 : decode cX4_addBits 54 = .ok (.iconst 1, 1) := by decide +kernel
theorem dX4_addBits_55 : decode cX4_addBits 55 = .ok (.isub, 1) := by decide +kernel
theorem dX4_addBits_56 : decode cX4_addBits 56 = .ok (.iand, 1) := by decide +kernel
theorem dX4_addBits_57 : decode cX4_addBits 57 = .ok (.istore 9, 2) := by decide +kernel
theorem dX4_addBits_59 : decode cX4_addBits 59 = .ok (.aload_n 1, 1) := by decide +kernel
theorem dX4_addBits_60 : decode cX4_addBits 60 = .ok (.iload 8, 2) := by decide +kernel
theorem dX4_addBits_62 : decode cX4_addBits 62 = .ok (.aload_n 1, 1) := by decide +kernel
theorem dX4_addBits_63 : decode cX4_addBits 63 = .ok (.iload 8, 2) := by decide +kernel
theorem dX4_addBits_65 : decode cX4_addBits 65 = .ok (.invokevirtual 128, 3) := by decide +kernel
theorem dX4_addBits_68 : decode cX4_addBits 68 = .ok (.iload 9, 2) := by decide +kernel
theorem dX4_addBits_70 : decode cX4_addBits 70 = .ok (.iload_n 3, 1) := by decide +kernel
theorem dX4_addBits_71 : decode cX4_addBits 71 = .ok (.aload_n 0, 1) := by decide +kernel
theorem dX4_addBits_72 : decode cX4_addBits 72 = .ok (.getfield 65, 3) := by decide +kernel
theorem dX4_addBits_75 : decode cX4_addBits 75 = .ok (.imul, 1) := by decide +kernel
theorem dX4_addBits_76 : decode cX4_addBits 76 = .ok (.ishl, 1) := by decide +kernel
theorem dX4_addBits_77 : decode cX4_addBits 77 = .ok (.ior, 1) := by decide +kernel
theorem dX4_addBits_78 : decode cX4_addBits 78 = .ok (.invokevirtual 132, 3) := by decide +kernel
theorem dX4_addBits_81 : decode cX4_addBits 81 = .ok (.iinc 6 1, 3) := by decide +kernel
theorem dX4_addBits_84 : decode cX4_addBits 84 = .ok (.iload 7, 2) := by decide +kernel
theorem dX4_addBits_86 : decode cX4_addBits 86 = .ok (.aload_n 0, 1) := by decide +kernel
theorem dX4_addBits_87 : decode cX4_addBits 87 = .ok (.getfield 65, 3) := by decide +kernel
theorem dX4_addBits_90 : decode cX4_addBits 90 = .ok (.isub, 1) := by decide +kernel
theorem dX4_addBits_91 : decode cX4_addBits 91 = .ok (.istore 7, 2) := by decide +kernel
theorem dX4_addBits_93 : decode cX4_addBits 93 = .ok (.goto (-75), 3) := by decide +kernel
theorem dX4_addBits_96 : decode cX4_addBits 96 = .ok (.return_, 1) := by decide +kernel
theorem dX4_colour_0 : decode cX4_colour 0 = .ok (.aload_n 1, 1) := by decide +kernel
theorem dX4_colour_1 : decode cX4_colour 1 = .ok (.invokevirtual 135, 3) := by decide +kernel
theorem dX4_colour_4 : decode cX4_colour 4 = .ok (.istore_n 2, 1) := by decide +kernel
theorem dX4_colour_5 : decode cX4_colour 5 = .ok (.iconst 0, 1) := by decide +kernel
theorem dX4_colour_6 : decode cX4_colour 6 = .ok (.istore_n 3, 1) := by decide +kernel
theorem dX4_colour_7 : decode cX4_colour 7 = .ok (.iload_n 3, 1) := by decide +kernel
theorem dX4_colour_8 : decode cX4_colour 8 = .ok (.iload_n 2, 1) := by decide +kernel
theorem dX4_colour_9 : decode cX4_colour 9 = .ok (.if_icmp .ge 123, 3) := by decide +kernel
theorem dX4_colour_12 : decode cX4_colour 12 = .ok (.aload_n 1, 1) := by decide +kernel
theorem dX4_colour_13 : decode cX4_colour 13 = .ok (.iload_n 3, 1) := by decide +kernel
theorem dX4_colour_14 : decode cX4_colour 14 = .ok (.invokevirtual 128, 3) := by decide +kernel
theorem dX4_colour_17 : decode cX4_colour 17 = .ok (.istore 4, 2) := by decide +kernel
theorem dX4_colour_19 : decode cX4_colour 19 = .ok (.aload_n 0, 1) := by decide +kernel
theorem dX4_colour_20 : decode cX4_colour 20 = .ok (.getfield 65, 3) := by decide +kernel
theorem dX4_colour_23 : decode cX4_colour 23 = .ok (.bipush 8, 2) := by decide +kernel
theorem dX4_colour_25 : decode cX4_colour 25 = .ok (.if_icmp .ne 49, 3) := by decide +kernel
theorem dX4_colour_28 : decode cX4_colour 28 = .ok (.aload_n 0, 1) := by decide +kernel
theorem dX4_colour_29 : decode cX4_colour 29 = .ok (.getfield 68, 3) := by decide +kernel
theorem dX4_colour_32 : decode cX4_colour 32 = .ok (.iconst 3, 1) := by decide +kernel
theorem dX4_colour_33 : decode cX4_colour 33 = .ok (.if_icmp .ne 41, 3) := by decide +kernel
theorem dX4_colour_36 : decode cX4_colour 36 = .ok (.aload_n 1, 1) := by decide +kernel
theorem dX4_colour_37 : decode cX4_colour 37 = .ok (.iload_n 3, 1) := by decide +kernel
theorem dX4_colour_38 : decode cX4_colour 38 = .ok (.iload 4, 2) := by decide +kernel
theorem dX4_colour_40 : decode cX4_colour 40 = .ok (.sipush 255, 3) := by decide +kernel
theorem dX4_colour_43 : decode cX4_colour 43 = .ok (.iand, 1) := by decide +kernel
theorem dX4_colour_44 : decode cX4_colour 44 = .ok (.iload 4, 2) := by decide +kernel
theorem dX4_colour_46 : decode cX4_colour 46 = .ok (.bipush 8, 2) := by decide +kernel
theorem dX4_colour_48 : decode cX4_colour 48 = .ok (.ishr, 1) := by decide +kernel
theorem dX4_colour_49 : decode cX4_colour 49 = .ok (.sipush 255, 3) := by decide +kernel
theorem dX4_colour_52 : decode cX4_colour 52 = .ok (.iand, 1) := by decide +kernel
theorem dX4_colour_53 : decode cX4_colour 53 = .ok (.iload 4, 2) := by decide +kernel
theorem dX4_colour_55 : decode cX4_colour 55 = .ok (.bipush 16, 2) := by decide +kernel
theorem dX4_colour_57 : decode cX4_colour 57 = .ok (.ishr, 1) := by decide +kernel
theorem dX4_colour_58 : decode cX4_colour 58 = .ok (.sipush 255, 3) := by decide +kernel
theorem dX4_colour_61 : decode cX4_colour 61 = .ok (.iand, 1) := by decide +kernel
theorem dX4_colour_62 : decode cX4_colour 62 = .ok (.sipush 255, 3) := by decide +kernel
theorem dX4_colour_65 : decode cX4_colour 65 = .ok (.invokestatic 114, 3) := by decide +kernel
theorem dX4_colour_68 : decode cX4_colour 68 = .ok (.invokevirtual 132, 3) := by decide +kernel
theorem dX4_colour_71 : decode cX4_colour 71 = .ok (.goto 55, 3) := by decide +kernel
theorem dX4_colour_74 : decode cX4_colour 74 = .ok (.aload_n 0, 1) := by decide +kernel
theorem dX4_colour_75 : decode cX4_colour 75 = .ok (.getfield 65, 3) := by decide +kernel
theorem dX4_colour_78 : decode cX4_colour 78 = .ok (.iconst 1, 1) := by decide +kernel
theorem dX4_colour_79 : decode cX4_colour 79 = .ok (.if_icmp .ne 31, 3) := by decide +kernel
theorem dX4_colour_82 : decode cX4_colour 82 = .ok (.aload_n 0, 1) := by decide +kernel
theorem dX4_colour_83 : decode cX4_colour 83 = .ok (.getfield 68, 3) := by decide +kernel
theorem dX4_colour_86 : decode cX4_colour 86 = .ok (.iconst 1, 1) := by decide +kernel
theorem dX4_colour_87 : decode cX4_colour 87 = .ok (.if_icmp .ne 23, 3) := by decide +kernel
theorem dX4_colour_90 : decode cX4_colour 90 = .ok (.aload_n 1, 1) := by decide +kernel
theorem dX4_colour_91 : decode cX4_colour 91 = .ok (.iload_n 3, 1) := by decide +kernel
theorem dX4_colour_92 : decode cX4_colour 92 = .ok (.iload 4, 2) := by decide +kernel
theorem dX4_colour_94 : decode cX4_colour 94 = .ok (.ifCond .ne 9, 3) := by decide +kernel
theorem dX4_colour_97 : decode cX4_colour 97 = .ok (.sipush 255, 3) := by decide +kernel
theorem dX4_colour_100 : decode cX4_colour 100 = .ok (.goto 4, 3) := by decide +kernel
theorem dX4_colour_103 : decode cX4_colour 103 = .ok (.iconst (-1), 1) := by decide +kernel
theorem dX4_colour_104 : decode cX4_colour 104 = .ok (.invokevirtual 132, 3) := by decide +kernel
theorem dX4_colour_107 : decode cX4_colour 107 = .ok (.goto 19, 3) := by decide +kernel
theorem dX4_colour_110 : decode cX4_colour 110 = .ok (.aload_n 1, 1) := by decide +kernel
theorem dX4_colour_111 : decode cX4_colour 111 = .ok (.iload_n 3, 1) := by decide +kernel
theorem dX4_colour_112 : decode cX4_colour 112 = .ok (.aload_n 0, 1) := by decide +kernel
theorem dX4_colour_113 : decode cX4_colour 113 = .ok (.getfield 9, 3) := by decide +kernel
theorem dX4_colour_116 : decode cX4_colour 116 = .ok (.iload 4, 2) := by decide +kernel
theorem dX4_colour_118 : decode cX4_colour 118 = .ok (.sipush 255, 3) := by decide +kernel
theorem dX4_colour_121 : decode cX4_colour 121 = .ok (.iand, 1) := by decide +kernel
theorem dX4_colour_122 : decode cX4_colour 122 = .ok (.iaload, 1) := by decide +kernel
theorem dX4_colour_123 : decode cX4_colour 123 = .ok (.invokevirtual 132, 3) := by decide +kernel
theorem dX4_colour_126 : decode cX4_colour 126 = .ok (.iinc 3 1, 3) := by decide +kernel
theorem dX4_colour_129 : decode cX4_colour 129 = .ok (.goto (-122), 3) := by decide +kernel
theorem dX4_colour_132 : decode cX4_colour 132 = .ok (.return_, 1) := by decide +kernel
theorem dX4_encode_0 : decode cX4_encode 0 = .ok (.iload_n 2, 1) := by decide +kernel
theorem dX4_encode_1 : decode cX4_encode 1 = .ok (.bipush 16, 2) := by decide +kernel
theorem dX4_encode_3 : decode cX4_encode 3 = .ok (.if_icmp .ne 7, 3) := by decide +kernel
theorem dX4_encode_6 : decode cX4_encode 6 = .ok (.iconst 3, 1) := by decide +kernel
theorem dX4_encode_7 : decode cX4_encode 7 = .ok (.goto 4, 3) := by decide +kernel
theorem dX4_encode_10 : decode cX4_encode 10 = .ok (.iconst 1, 1) := by decide +kernel
theorem dX4_encode_11 : decode cX4_encode 11 = .ok (.istore 4, 2) := by decide +kernel
theorem dX4_encode_13 : decode cX4_encode 13 = .ok (.aload_n 1, 1) := by decide +kernel
theorem dX4_encode_14 : decode cX4_encode 14 = .ok (.getfield 46, 3) := by decide +kernel
theorem dX4_encode_17 : decode cX4_encode 17 = .ok (.iconst 1, 1) := by decide +kernel
theorem dX4_encode_18 : decode cX4_encode 18 = .ok (.iadd, 1) := by decide +kernel
theorem dX4_encode_19 : decode cX4_encode 19 = .ok (.bipush (-2), 2) := by decide +kernel
theorem dX4_encode_21 : decode cX4_encode 21 = .ok (.iand, 1) := by decide +kernel
theorem dX4_encode_22 : decode cX4_encode 22 = .ok (.istore 5, 2) := by decide +kernel
theorem dX4_encode_24 : decode cX4_encode 24 = .ok (.iload 4, 2) := by decide +kernel
theorem dX4_encode_26 : decode cX4_encode 26 = .ok (.iconst 1, 1) := by decide +kernel
theorem dX4_encode_27 : decode cX4_encode 27 = .ok (.if_icmp .ne 11, 3) := by decide +kernel
theorem dX4_encode_30 : decode cX4_encode 30 = .ok (.aload_n 0, 1) := by decide +kernel
theorem dX4_encode_31 : decode cX4_encode 31 = .ok (.getfield 15, 3) := by decide +kernel
theorem dX4_encode_34 : decode cX4_encode 34 = .ok (.aload_n 1, 1) := by decide +kernel
theorem dX4_encode_35 : decode cX4_encode 35 = .ok (.invokevirtual 138, 3) := by decide +kernel
theorem dX4_encode_38 : decode cX4_encode 38 = .ok (.aload_n 1, 1) := by decide +kernel
theorem dX4_encode_39 : decode cX4_encode 39 = .ok (.iload 4, 2) := by decide +kernel
theorem dX4_encode_41 : decode cX4_encode 41 = .ok (.iload 5, 2) := by decide +kernel
theorem dX4_encode_43 : decode cX4_encode 43 = .ok (.aload_n 3, 1) := by decide +kernel
theorem dX4_encode_44 : decode cX4_encode 44 = .ok (.invokestatic 143, 3) := by decide +kernel
theorem dX4_encode_47 : decode cX4_encode 47 = .ok (.iconst 0, 1) := by decide +kernel
theorem dX4_encode_48 : decode cX4_encode 48 = .ok (.istore 6, 2) := by decide +kernel
theorem dX4_encode_50 : decode cX4_encode 50 = .ok (.iload 6, 2) := by decide +kernel
theorem dX4_encode_52 : decode cX4_encode 52 = .ok (.aload_n 1, 1) := by decide +kernel
theorem dX4_encode_53 : decode cX4_encode 53 = .ok (.getfield 58, 3) := by decide +kernel
theorem dX4_encode_56 : decode cX4_encode 56 = .ok (.if_icmp .ge 47, 3) := by decide +kernel
theorem dX4_encode_59 : decode cX4_encode 59 = .ok (.iconst 0, 1) := by decide +kernel
theorem dX4_encode_60 : decode cX4_encode 60 = .ok (.istore 7, 2) := by decide +kernel
theorem dX4_encode_62 : decode cX4_encode 62 = .ok (.iload 7, 2) := by decide +kernel
theorem dX4_encode_64 : decode cX4_encode 64 = .ok (.iload 4, 2) := by decide +kernel
theorem dX4_encode_66 : decode cX4_encode 66 = .ok (.if_icmp .ge 31, 3) := by decide +kernel
theorem dX4_encode_69 : decode cX4_encode 69 = .ok (.aload_n 0, 1) := by decide +kernel
theorem dX4_encode_70 : decode cX4_encode 70 = .ok (.aload_n 1, 1) := by decide +kernel
theorem dX4_encode_71 : decode cX4_encode 71 = .ok (.iload 6, 2) := by decide +kernel
theorem dX4_encode_73 : decode cX4_encode 73 = .ok (.iload 4, 2) := by decide +kernel
theorem dX4_encode_75 : decode cX4_encode 75 = .ok (.iconst 1, 1) := by decide +kernel
theorem dX4_encode_76 : decode cX4_encode 76 = .ok (.if_icmp .ne 7, 3) := by decide +kernel
theorem dX4_encode_79 : decode cX4_encode 79 = .ok (.iconst (-1), 1) := by decide +kernel
theorem dX4_encode_80 : decode cX4_encode 80 = .ok (.goto 5, 3) := by decide +kernel
theorem dX4_encode_83 : decode cX4_encode 83 = .ok (.iload 7, 2) := by decide +kernel
theorem dX4_encode_85 : decode cX4_encode 85 = .ok (.iload 5, 2) := by decide +kernel
theorem dX4_encode_87 : decode cX4_encode 87 = .ok (.aload_n 3, 1) := by decide +kernel
theorem dX4_encode_88 : decode cX4_encode 88 = .ok (.invokevirtual 147, 3) := by decide +kernel
theorem dX4_encode_91 : decode cX4_encode 91 = .ok (.iinc 7 1, 3) := by decide +kernel
theorem dX4_encode_94 : decode cX4_encode 94 = .ok (.goto (-32), 3) := by decide +kernel
theorem dX4_encode_97 : decode cX4_encode 97 = .ok (.iinc 6 1, 3) := by decide +kernel
theorem dX4_encode_100 : decode cX4_encode 100 = .ok (.goto (-50), 3) := by decide +kernel
theorem dX4_encode_103 : decode cX4_encode 103 = .ok (.iload 4, 2) := by decide +kernel
theorem dX4_encode_105 : decode cX4_encode 105 = .ok (.iconst 1, 1) := by decide +kernel
theorem dX4_encode_106 : decode cX4_encode 106 = .ok (.if_icmp .ne 8, 3) := by decide +kernel
theorem dX4_encode_109 : decode cX4_encode 109 = .ok (.aload_n 0, 1) := by decide +kernel
theorem dX4_encode_110 : decode cX4_encode 110 = .ok (.aload_n 3, 1) := by decide +kernel
theorem dX4_encode_111 : decode cX4_encode 111 = .ok (.invokevirtual 151, 3) := by decide +kernel
theorem dX4_encode_114 : decode cX4_encode 114 = .ok (.return_, 1) := by decide +kernel
theorem dX4_writeHeader_0 : decode cX4_writeHeader 0 = .ok (.aload_n 3, 1) := by decide +kernel
theorem dX4_writeHeader_1 : decode cX4_writeHeader 1 = .ok (.bipush 10, 2) := by decide +kernel
theorem dX4_writeHeader_3 : decode cX4_writeHeader 3 = .ok (.invokevirtual 155, 3) := by decide +kernel
theorem dX4_writeHeader_6 : decode cX4_writeHeader 6 = .ok (.aload_n 3, 1) := by decide +kernel
theorem dX4_writeHeader_7 : decode cX4_writeHeader 7 = .ok (.iconst 5, 1) := by decide +kernel
theorem dX4_writeHeader_8 : decode cX4_writeHeader 8 = .ok (.invokevirtual 155, 3) := by decide +kernel
theorem dX4_writeHeader_11 : decode cX4_writeHeader 11 = .ok (.aload_n 3, 1) := by decide +kernel
theorem dX4_writeHeader_12 : decode cX4_writeHeader 12 = .ok (.iconst 1, 1) := by decide +kernel
theorem dX4_writeHeader_13 : decode cX4_writeHeader 13 = .ok (.invokevirtual 155, 3) := by decide +kernel
theorem dX4_writeHeader_16 : decode cX4_writeHeader 16 = .ok (.aload_n 3, 1) := by decide +kernel
theorem dX4_writeHeader_17 : decode cX4_writeHeader 17 = .ok (.bipush 8, 2) := by decide +kernel
theorem dX4_writeHeader_19 : decode cX4_writeHeader 19 = .ok (.invokevirtual 155, 3) := by decide +kernel
theorem dX4_writeHeader_22 : decode cX4_writeHeader 22 = .ok (.aload_n 3, 1) := by decide +kernel
theorem dX4_writeHeader_23 : decode cX4_writeHeader 23 = .ok (.iconst 0, 1) := by decide +kernel
theorem dX4_writeHeader_24 : decode cX4_writeHeader 24 = .ok (.invokevirtual 160, 3) := by decide +kernel
theorem dX4_writeHeader_27 : decode cX4_writeHeader 27 = .ok (.aload_n 3, 1) := by decide +kernel
theorem dX4_writeHeader_28 : decode cX4_writeHeader 28 = .ok (.aload_n 0, 1) := by decide +kernel
theorem dX4_writeHeader_29 : decode cX4_writeHeader 29 = .ok (.getfield 46, 3) := by decide +kernel
theorem dX4_writeHeader_32 : decode cX4_writeHeader 32 = .ok (.iconst 1, 1) := by decide +kernel
theorem dX4_writeHeader_33 : decode cX4_writeHeader 33 = .ok (.isub, 1) := by decide +kernel
theorem dX4_writeHeader_34 : decode cX4_writeHeader 34 = .ok (.invokevirtual 163, 3) := by decide +kernel
theorem dX4_writeHeader_37 : decode cX4_writeHeader 37 = .ok (.aload_n 3, 1) := by decide +kernel
theorem dX4_writeHeader_38 : decode cX4_writeHeader 38 = .ok (.aload_n 0, 1) := by decide +kernel
theorem dX4_writeHeader_39 : decode cX4_writeHeader 39 = .ok (.getfield 58, 3) := by decide +kernel
theorem dX4_writeHeader_42 : decode cX4_writeHeader 42 = .ok (.iconst 1, 1) := by decide +kernel
theorem dX4_writeHeader_43 : decode cX4_writeHeader 43 = .ok (.isub, 1) := by decide +kernel
theorem dX4_writeHeader_44 : decode cX4_writeHeader 44 = .ok (.invokevirtual 163, 3) := by decide +kernel
theorem dX4_writeHeader_47 : decode cX4_writeHeader 47 = .ok (.aload_n 3, 1) := by decide +kernel
theorem dX4_writeHeader_48 : decode cX4_writeHeader 48 = .ok (.bipush 72, 2) := by decide +kernel
theorem dX4_writeHeader_50 : decode cX4_writeHeader 50 = .ok (.invokevirtual 163, 3) := by decide +kernel
theorem dX4_writeHeader_53 : decode cX4_writeHeader 53 = .ok (.aload_n 3, 1) := by decide +kernel
theorem dX4_writeHeader_54 : decode cX4_writeHeader 54 = .ok (.bipush 72, 2) := by decide +kernel
theorem dX4_writeHeader_56 : decode cX4_writeHeader 56 = .ok (.invokevirtual 163, 3) := by decide +kernel
theorem dX4_writeHeader_59 : decode cX4_writeHeader 59 = .ok (.aload_n 3, 1) := by decide +kernel
theorem dX4_writeHeader_60 : decode cX4_writeHeader 60 = .ok (.bipush 49, 2) := by decide +kernel
theorem dX4_writeHeader_62 : decode cX4_writeHeader 62 = .ok (.invokevirtual 166, 3) := by decide +kernel
theorem dX4_writeHeader_65 : decode cX4_writeHeader 65 = .ok (.aload_n 3, 1) := by decide +kernel
theorem dX4_writeHeader_66 : decode cX4_writeHeader 66 = .ok (.iload_n 1, 1) := by decide +kernel
theorem dX4_writeHeader_67 : decode cX4_writeHeader 67 = .ok (.invokevirtual 155, 3) := by decide +kernel
theorem dX4_writeHeader_70 : decode cX4_writeHeader 70 = .ok (.aload_n 3, 1) := by decide +kernel
theorem dX4_writeHeader_71 : decode cX4_writeHeader 71 = .ok (.iload_n 2, 1) := by decide +kernel
theorem dX4_writeHeader_72 : decode cX4_writeHeader 72 = .ok (.invokevirtual 163, 3) := by decide +kernel
theorem dX4_writeHeader_75 : decode cX4_writeHeader 75 = .ok (.aload_n 3, 1) := by decide +kernel
theorem dX4_writeHeader_76 : decode cX4_writeHeader 76 = .ok (.iconst 1, 1) := by decide +kernel
theorem dX4_writeHeader_77 : decode cX4_writeHeader 77 = .ok (.invokevirtual 155, 3) := by decide +kernel
theorem dX4_writeHeader_80 : decode cX4_writeHeader 80 = .ok (.aload_n 3, 1) := by decide +kernel
theorem dX4_writeHeader_81 : decode cX4_writeHeader 81 = .ok (.bipush 59, 2) := by decide +kernel
theorem dX4_writeHeader_83 : decode cX4_writeHeader 83 = .ok (.invokevirtual 166, 3) := by decide +kernel
theorem dX4_writeHeader_86 : decode cX4_writeHeader 86 = .ok (.return_, 1) := by decide +kernel
theorem dX4_writeLine_0 : decode cX4_writeLine 0 = .ok (.aload_n 0, 1) := by decide +kernel
theorem dX4_writeLine_1 : decode cX4_writeLine 1 = .ok (.aload_n 1, 1) := by decide +kernel
theorem dX4_writeLine_2 : decode cX4_writeLine 2 = .ok (.iload_n 2, 1) := by decide +kernel
theorem dX4_writeLine_3 : decode cX4_writeLine 3 = .ok (.iload_n 3, 1) := by decide +kernel
theorem dX4_writeLine_4 : decode cX4_writeLine 4 = .ok (.iconst 0, 1) := by decide +kernel
theorem dX4_writeLine_5 : decode cX4_writeLine 5 = .ok (.invokevirtual 169, 3) := by decide +kernel
theorem dX4_writeLine_8 : decode cX4_writeLine 8 = .ok (.istore 6, 2) := by decide +kernel
theorem dX4_writeLine_10 : decode cX4_writeLine 10 = .ok (.iconst 0, 1) := by decide +kernel
theorem dX4_writeLine_11 : decode cX4_writeLine 11 = .ok (.istore 7, 2) := by decide +kernel
theorem dX4_writeLine_13 : decode cX4_writeLine 13 = .ok (.iconst 0, 1) := by decide +kernel
theorem dX4_writeLine_14 : decode cX4_writeLine 14 = .ok (.istore 8, 2) := by decide +kernel
theorem dX4_writeLine_16 : decode cX4_writeLine 16 = .ok (.iload 8, 2) := by decide +kernel
theorem dX4_writeLine_18 : decode cX4_writeLine 18 = .ok (.iload 4, 2) := by decide +kernel
theorem dX4_writeLine_20 : decode cX4_writeLine 20 = .ok (.if_icmp .ge 87, 3) := by decide +kernel
theorem dX4_writeLine_23 : decode cX4_writeLine 23 = .ok (.iinc 7 1, 3) := by decide +kernel
theorem dX4_writeLine_26 : decode cX4_writeLine 26 = .ok (.aload_n 0, 1) := by decide +kernel
theorem dX4_writeLine_27 : decode cX4_writeLine 27 = .ok (.aload_n 1, 1) := by decide +kernel
theorem dX4_writeLine_28 : decode cX4_writeLine 28 = .ok (.iload_n 2, 1) := by decide +kernel
theorem dX4_writeLine_29 : decode cX4_writeLine 29 = .ok (.iload_n 3, 1) := by decide +kernel
theorem dX4_writeLine_30 : decode cX4_writeLine 30 = .ok (.iload 8, 2) := by decide +kernel
theorem dX4_writeLine_32 : decode cX4_writeLine 32 = .ok (.iconst 1, 1) := by decide +kernel
theorem dX4_writeLine_33 : decode cX4_writeLine 33 = .ok (.iadd, 1) := by decide +kernel
theorem dX4_writeLine_34 : decode cX4_writeLine 34 = .ok (.invokevirtual 169, 3) := by decide +kernel
theorem dX4_writeLine_37 : decode cX4_writeLine 37 = .ok (.istore 9, 2) := by decide +kernel
theorem dX4_writeLine_39 : decode cX4_writeLine 39 = .ok (.iload 8, 2) := by decide +kernel
theorem dX4_writeLine_41 : decode cX4_writeLine 41 = .ok (.iload 4, 2) := by decide +kernel
theorem dX4_writeLine_43 : decode cX4_writeLine 43 = .ok (.iconst 1, 1) := by decide +kernel
theorem dX4_writeLine_44 : decode cX4_writeLine 44 = .ok (.isub, 1) := by decide +kernel
theorem dX4_writeLine_45 : decode cX4_writeLine 45 = .ok (.if_icmp .eq 17, 3) := by decide +kernel
theorem dX4_writeLine_48 : decode cX4_writeLine 48 = .ok (.iload 9, 2) := by decide +kernel
theorem dX4_writeLine_50 : decode cX4_writeLine 50 = .ok (.iload 6, 2) := by decide +kernel
theorem dX4_writeLine_52 : decode cX4_writeLine 52 = .ok (.if_icmp .ne 10, 3) := by decide +kernel
theorem dX4_writeLine_55 : decode cX4_writeLine 55 = .ok (.iload 7, 2) := by decide +kernel
theorem dX4_writeLine_57 : decode cX4_writeLine 57 = .ok (.bipush 63, 2) := by decide +kernel
theorem dX4_writeLine_59 : decode cX4_writeLine 59 = .ok (.if_icmp .ne 38, 3) := by decide +kernel
theorem dX4_writeLine_62 : decode cX4_writeLine 62 = .ok (.iload 7, 2) := by decide +kernel
theorem dX4_writeLine_64 : decode cX4_writeLine 64 = .ok (.iconst 1, 1) := by decide +kernel
theorem dX4_writeLine_65 : decode cX4_writeLine 65 = .ok (.if_icmp .gt 11, 3) := by decide +kernel
theorem dX4_writeLine_68 : decode cX4_writeLine 68 = .ok (.iload 6, 2) := by decide +kernel
theorem dX4_writeLine_70 : decode cX4_writeLine 70 = .ok (.sipush 192, 3) := by decide +kernel
theorem dX4_writeLine_73 : decode cX4_writeLine 73 = .ok (.if_icmp .lt 14, 3) := by decide +kernel
theorem dX4_writeLine_76 : decode cX4_writeLine 76 = .ok (.aload 5, 2) := by decide +kernel
theorem dX4_writeLine_78 : decode cX4_writeLine 78 = .ok (.sipush 192, 3) := by decide +kernel
theorem dX4_writeLine_81 : decode cX4_writeLine 81 = .ok (.iload 7, 2) := by decide +kernel
theorem dX4_writeLine_83 : decode cX4_writeLine 83 = .ok (.iadd, 1) := by decide +kernel
theorem dX4_writeLine_84 : decode cX4_writeLine 84 = .ok (.invokevirtual 155, 3) := by decide +kernel
theorem dX4_writeLine_87 : decode cX4_writeLine 87 = .ok (.aload 5, 2) := by decide +kernel
theorem dX4_writeLine_89 : decode cX4_writeLine 89 = .ok (.iload 6, 2) := by decide +kernel
theorem dX4_writeLine_91 : decode cX4_writeLine 91 = .ok (.invokevirtual 155, 3) := by decide +kernel
theorem dX4_writeLine_94 : decode cX4_writeLine 94 = .ok (.iconst 0, 1) := by decide +kernel
theorem dX4_writeLine_95 : decode cX4_writeLine 95 = .ok (.istore 7, 2) := by decide +kernel
theorem dX4_writeLine_97 : decode cX4_writeLine 97 = .ok (.iload 9, 2) := by decide +kernel
theorem dX4_writeLine_99 : decode cX4_writeLine 99 = .ok (.istore 6, 2) := by decide +kernel
theorem dX4_writeLine_101 : decode cX4_writeLine 101 = .ok (.iinc 8 1, 3) := by decide +kernel
theorem dX4_writeLine_104 : decode cX4_writeLine 104 = .ok (.goto (-88), 3) := by decide +kernel
theorem dX4_writeLine_107 : decode cX4_writeLine 107 = .ok (.return_, 1) := by decide +kernel
theorem dX4_sampleAt_0 : decode cX4_sampleAt 0 = .ok (.iload 4, 2) := by decide +kernel
theorem dX4_sampleAt_2 : decode cX4_sampleAt 2 = .ok (.aload_n 1, 1) := by decide +kernel
theorem dX4_sampleAt_3 : decode cX4_sampleAt 3 = .ok (.getfield 46, 3) := by decide +kernel
theorem dX4_sampleAt_6 : decode cX4_sampleAt 6 = .ok (.if_icmp .lt 5, 3) := by decide +kernel
theorem dX4_sampleAt_9 : decode cX4_sampleAt 9 = .ok (.iconst 0, 1) := by decide +kernel
theorem dX4_sampleAt_10 : decode cX4_sampleAt 10 = .ok (.ireturn, 1) := by decide +kernel
theorem dX4_sampleAt_11 : decode cX4_sampleAt 11 = .ok (.aload_n 1, 1) := by decide +kernel
theorem dX4_sampleAt_12 : decode cX4_sampleAt 12 = .ok (.iload_n 2, 1) := by decide +kernel
theorem dX4_sampleAt_13 : decode cX4_sampleAt 13 = .ok (.aload_n 1, 1) := by decide +kernel
theorem dX4_sampleAt_14 : decode cX4_sampleAt 14 = .ok (.getfield 46, 3) := by decide +kernel
theorem dX4_sampleAt_17 : decode cX4_sampleAt 17 = .ok (.imul, 1) := by decide +kernel
theorem dX4_sampleAt_18 : decode cX4_sampleAt 18 = .ok (.iload 4, 2) := by decide +kernel
theorem dX4_sampleAt_20 : decode cX4_sampleAt 20 = .ok (.iadd, 1) := by decide +kernel
theorem dX4_sampleAt_21 : decode cX4_sampleAt 21 = .ok (.invokevirtual 128, 3) := by decide +kernel
theorem dX4_sampleAt_24 : decode cX4_sampleAt 24 = .ok (.istore 5, 2) := by decide +kernel
theorem dX4_sampleAt_26 : decode cX4_sampleAt 26 = .ok (.iload_n 3, 1) := by decide +kernel
theorem dX4_sampleAt_27 : decode cX4_sampleAt 27 = .ok (.iconst (-1), 1) := by decide +kernel
theorem dX4_sampleAt_28 : decode cX4_sampleAt 28 = .ok (.if_icmp .ne 15, 3) := by decide +kernel
theorem dX4_sampleAt_31 : decode cX4_sampleAt 31 = .ok (.aload_n 0, 1) := by decide +kernel
theorem dX4_sampleAt_32 : decode cX4_sampleAt 32 = .ok (.getfield 15, 3) := by decide +kernel
theorem dX4_sampleAt_35 : decode cX4_sampleAt 35 = .ok (.iload 5, 2) := by decide +kernel
theorem dX4_sampleAt_37 : decode cX4_sampleAt 37 = .ok (.invokevirtual 173, 3) := by decide +kernel
theorem dX4_sampleAt_40 : decode cX4_sampleAt 40 = .ok (.goto 17, 3) := by decide +kernel
theorem dX4_sampleAt_43 : decode cX4_sampleAt 43 = .ok (.iload 5, 2) := by decide +kernel
theorem dX4_sampleAt_45 : decode cX4_sampleAt 45 = .ok (.bipush 24, 2) := by decide +kernel
theorem dX4_sampleAt_47 : decode cX4_sampleAt 47 = .ok (.bipush 8, 2) := by decide +kernel
theorem dX4_sampleAt_49 : decode cX4_sampleAt 49 = .ok (.iload_n 3, 1) := by decide +kernel
theorem dX4_sampleAt_50 : decode cX4_sampleAt 50 = .ok (.imul, 1) := by decide +kernel
theorem dX4_sampleAt_51 : decode cX4_sampleAt 51 = .ok (.isub, 1) := by decide +kernel
theorem dX4_sampleAt_52 : decode cX4_sampleAt 52 = .ok (.iushr, 1) := by decide +kernel
theorem dX4_sampleAt_53 : decode cX4_sampleAt 53 = .ok (.sipush 255, 3) := by decide +kernel
theorem dX4_sampleAt_56 : decode cX4_sampleAt 56 = .ok (.iand, 1) := by decide +kernel
theorem dX4_sampleAt_57 : decode cX4_sampleAt 57 = .ok (.ireturn, 1) := by decide +kernel
theorem dX4_writeTable_0 : decode cX4_writeTable 0 = .ok (.aload_n 1, 1) := by decide +kernel
theorem dX4_writeTable_1 : decode cX4_writeTable 1 = .ok (.bipush 12, 2) := by decide +kernel
theorem dX4_writeTable_3 : decode cX4_writeTable 3 = .ok (.invokevirtual 155, 3) := by decide +kernel
theorem dX4_writeTable_6 : decode cX4_writeTable 6 = .ok (.iconst 0, 1) := by decide +kernel
theorem dX4_writeTable_7 : decode cX4_writeTable 7 = .ok (.istore_n 2, 1) := by decide +kernel
theorem dX4_writeTable_8 : decode cX4_writeTable 8 = .ok (.iload_n 2, 1) := by decide +kernel
theorem dX4_writeTable_9 : decode cX4_writeTable 9 = .ok (.sipush 256, 3) := by decide +kernel
theorem dX4_writeTable_12 : decode cX4_writeTable 12 = .ok (.if_icmp .ge 42, 3) := by decide +kernel
theorem dX4_writeTable_15 : decode cX4_writeTable 15 = .ok (.aload_n 0, 1) := by decide +kernel
theorem dX4_writeTable_16 : decode cX4_writeTable 16 = .ok (.getfield 15, 3) := by decide +kernel
theorem dX4_writeTable_19 : decode cX4_writeTable 19 = .ok (.iload_n 2, 1) := by decide +kernel
theorem dX4_writeTable_20 : decode cX4_writeTable 20 = .ok (.invokevirtual 176, 3) := by decide +kernel
theorem dX4_writeTable_23 : decode cX4_writeTable 23 = .ok (.istore_n 3, 1) := by decide +kernel
theorem dX4_writeTable_24 : decode cX4_writeTable 24 = .ok (.aload_n 1, 1) := by decide +kernel
theorem dX4_writeTable_25 : decode cX4_writeTable 25 = .ok (.iload_n 3, 1) := by decide +kernel
theorem dX4_writeTable_26 : decode cX4_writeTable 26 = .ok (.invokestatic 177, 3) := by decide +kernel
theorem dX4_writeTable_29 : decode cX4_writeTable 29 = .ok (.invokevirtual 155, 3) := by decide +kernel
theorem dX4_writeTable_32 : decode cX4_writeTable 32 = .ok (.aload_n 1, 1) := by decide +kernel
theorem dX4_writeTable_33 : decode cX4_writeTable 33 = .ok (.iload_n 3, 1) := by decide +kernel
theorem dX4_writeTable_34 : decode cX4_writeTable 34 = .ok (.invokestatic 180, 3) := by decide +kernel
theorem dX4_writeTable_37 : decode cX4_writeTable 37 = .ok (.invokevirtual 155, 3) := by decide +kernel
theorem dX4_writeTable_40 : decode cX4_writeTable 40 = .ok (.aload_n 1, 1) := by decide +kernel
theorem dX4_writeTable_41 : decode cX4_writeTable 41 = .ok (.iload_n 3, 1) := by decide +kernel
theorem dX4_writeTable_42 : decode cX4_writeTable 42 = .ok (.invokestatic 183, 3) := by decide +kernel
theorem dX4_writeTable_45 : decode cX4_writeTable 45 = .ok (.invokevirtual 155, 3) := by decide +kernel
theorem dX4_writeTable_48 : decode cX4_writeTable 48 = .ok (.iinc 2 1, 3) := by decide +kernel
theorem dX4_writeTable_51 : decode cX4_writeTable 51 = .ok (.goto (-43), 3) := by decide +kernel
theorem dX4_writeTable_54 : decode cX4_writeTable 54 = .ok (.return_, 1) := by decide +kernel
