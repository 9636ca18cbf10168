theorem dX6_init_0 : decode cX6_init 0 = .ok (.aload_n 0, 1) := by decide +kernel
theorem dX6_init_1 : decode cX6_init 1 = .ok (.invokespecial 3, 3) := by decide +kernel
theorem dX6_init_4 : decode cX6_init 4 = .ok (.aload_n 0, 1) := by decide +kernel
theorem dX6_init_5 : decode cX6_init 5 = .ok (.bipush 64, 2) := by decide +kernel
theorem dX6_init_7 : decode cX6_init 7 = .ok (.newarray .int, 2) := by decide +kernel
theorem dX6_init_9 : decode cX6_init 9 = .ok (.putfield 9, 3) := by decide +kernel
theorem dX6_init_12 : decode cX6_init 12 = .ok (.return_, 1) := by decide +kernel
theorem dX6_decode_0 : decode cX6_decode 0 = .ok (.aload_n 1, 1) := by decide +kernel
theorem dX6_decode_1 : decode cX6_decode 1 = .ok (.bipush 113, 2) := by decide +kernel
theorem dX6_decode_3 : decode cX6_decode 3 = .ok (.invokevirtual 15, 3) := by decide +kernel
theorem dX6_decode_6 : decode cX6_decode 6 = .ok (.aload_n 1, 1) := by decide +kernel
theorem dX6_decode_7 : decode cX6_decode 7 = .ok (.bipush 111, 2) := by decide +kernel
theorem dX6_decode_9 : decode cX6_decode 9 = .ok (.invokevirtual 15, 3) := by decide +kernel
theorem dX6_decode_12 : decode cX6_decode 12 = .ok (.aload_n 1, 1) := by decide +kernel
theorem dX6_decode_13 : decode cX6_decode 13 = .ok (.bipush 105, 2) := by decide +kernel
theorem dX6_decode_15 : decode cX6_decode 15 = .ok (.invokevirtual 15, 3) := by decide +kernel
theorem dX6_decode_18 : decode cX6_decode 18 = .ok (.aload_n 1, 1) := by decide +kernel
theorem dX6_decode_19 : decode cX6_decode 19 = .ok (.bipush 102, 2) := by decide +kernel
theorem dX6_decode_21 : decode cX6_decode 21 = .ok (.invokevirtual 15, 3) := by decide +kernel
theorem dX6_decode_24 : decode cX6_decode 24 = .ok (.aload_n 1, 1) := by decide +kernel
theorem dX6_decode_25 : decode cX6_decode 25 = .ok (.invokestatic 21, 3) := by decide +kernel
theorem dX6_decode_28 : decode cX6_decode 28 = .ok (.lstore_n 3, 1) := by decide +kernel
theorem dX6_decode_29 : decode cX6_decode 29 = .ok (.aload_n 1, 1) := by decide +kernel
theorem dX6_decode_30 : decode cX6_decode 30 = .ok (.getfield 25, 3) := by decide +kernel
theorem dX6_decode_33 : decode cX6_decode 33 = .ok (.istore 5, 2) := by decide +kernel
theorem dX6_decode_35 : decode cX6_decode 35 = .ok (.aload_n 1, 1) := by decide +kernel
theorem dX6_decode_36 : decode cX6_decode 36 = .ok (.invokestatic 21, 3) := by decide +kernel
theorem dX6_decode_39 : decode cX6_decode 39 = .ok (.lstore 6, 2) := by decide +kernel
theorem dX6_decode_41 : decode cX6_decode 41 = .ok (.aload_n 1, 1) := by decide +kernel
theorem dX6_decode_42 : decode cX6_decode 42 = .ok (.aload_n 2, 1) := by decide +kernel
theorem dX6_decode_43 : decode cX6_decode 43 = .ok (.lload_n 3, 1) := by decide +kernel
theorem dX6_decode_44 : decode cX6_decode 44 = .ok (.lload 6, 2) := by decide +kernel
theorem dX6_decode_46 : decode cX6_decode 46 = .ok (.iload 5, 2) := by decide +kernel
theorem dX6_decode_48 : decode cX6_decode 48 = .ok (.invokevirtual 29, 3) := by decide +kernel
theorem dX6_decode_51 : decode cX6_decode 51 = .ok (.aload_n 0, 1) := by decide +kernel
theorem dX6_decode_52 : decode cX6_decode 52 = .ok (.aload_n 1, 1) := by decide +kernel
theorem dX6_decode_53 : decode cX6_decode 53 = .ok (.iconst 3, 1) := by decide +kernel
theorem dX6_decode_54 : decode cX6_decode 54 = .ok (.iconst 4, 1) := by decide +kernel
theorem dX6_decode_55 : decode cX6_decode 55 = .ok (.invokestatic 33, 3) := by decide +kernel
theorem dX6_decode_58 : decode cX6_decode 58 = .ok (.putfield 37, 3) := by decide +kernel
theorem dX6_decode_61 : decode cX6_decode 61 = .ok (.aload_n 0, 1) := by decide +kernel
theorem dX6_decode_62 : decode cX6_decode 62 = .ok (.aload_n 1, 1) := by decide +kernel
theorem dX6_decode_63 : decode cX6_decode 63 = .ok (.iconst 0, 1) := by decide +kernel
theorem dX6_decode_64 : decode cX6_decode 64 = .ok (.iconst 1, 1) := by decide +kernel
theorem dX6_decode_65 : decode cX6_decode 65 = .ok (.invokestatic 33, 3) := by decide +kernel
theorem dX6_decode_68 : decode cX6_decode 68 = .ok (.putfield 40, 3) := by decide +kernel
theorem dX6_decode_71 : decode cX6_decode 71 = .ok (.aload_n 0, 1) := by decide +kernel
theorem dX6_decode_72 : decode cX6_decode 72 = .ok (.aload_n 0, 1) := by decide +kernel
theorem dX6_decode_73 : decode cX6_decode 73 = .ok (.aload_n 1, 1) := by decide +kernel
theorem dX6_decode_74 : decode cX6_decode 74 = .ok (.aload_n 2, 1) := by decide +kernel
theorem dX6_decode_75 : decode cX6_decode 75 = .ok (.invokevirtual 43, 3) := by decide +kernel
theorem dX6_decode_78 : decode cX6_decode 78 = .ok (.putfield 47, 3) := by decide +kernel
theorem dX6_decode_81 : decode cX6_decode 81 = .ok (.iconst 0, 1) := by decide +kernel
theorem dX6_decode_82 : decode cX6_decode 82 = .ok (.istore 8, 2) := by decide +kernel
theorem dX6_decode_84 : decode cX6_decode 84 = .ok (.iload 8, 2) := by decide +kernel
theorem dX6_decode_86 : decode cX6_decode 86 = .ok (.bipush 7, 2) := by decide +kernel
theorem dX6_decode_88 : decode cX6_decode 88 = .ok (.if_icmp .ge 14, 3) := by decide +kernel
theorem dX6_decode_91 : decode cX6_decode 91 = .ok (.aload_n 1, 1) := by decide +kernel
theorem dX6_decode_92 : decode cX6_decode 92 = .ok (.iconst 0, 1) := by decide +kernel
theorem dX6_decode_93 : decode cX6_decode 93 = .ok (.invokevirtual 15, 3) := by decide +kernel
theorem dX6_decode_96 : decode cX6_decode 96 = .ok (.iinc 8 1, 3) := by decide +kernel
theorem dX6_decode_99 : decode cX6_decode 99 = .ok (.goto (-15), 3) := by decide +kernel
theorem dX6_decode_102 : decode cX6_decode 102 = .ok (.aload_n 1, 1) := by decide +kernel
theorem dX6_decode_103 : decode cX6_decode 103 = .ok (.iconst 1, 1) := by decide +kernel
theorem dX6_decode_104 : decode cX6_decode 104 = .ok (.invokevirtual 15, 3) := by decide +kernel
theorem dX6_decode_107 : decode cX6_decode 107 = .ok (.aload_n 1, 1) := by decide +kernel
theorem dX6_decode_108 : decode cX6_decode 108 = .ok (.invokevirtual 50, 3) := by decide +kernel
theorem dX6_decode_111 : decode cX6_decode 111 = .ok (.return_, 1) := by decide +kernel
theorem dX6_readSide_0 : decode cX6_readSide 0 = .ok (.aload_n 0, 1) := by decide +kernel
theorem dX6_readSide_1 : decode cX6_readSide 1 = .ok (.getfield 25, 3) := by decide +kernel
theorem dX6_readSide_4 : decode cX6_readSide 4 = .ok (.istore_n 1, 1) := by decide +kernel
theorem dX6_readSide_5 : decode cX6_readSide 5 = .ok (.aload_n 0, 1) := by decide +kernel
theorem dX6_readSide_6 : decode cX6_readSide 6 = .ok (.invokevirtual 53, 3) := by decide +kernel
theorem dX6_readSide_9 : decode cX6_readSide 9 = .ok (.i2l, 1) := by decide +kernel
theorem dX6_readSide_10 : decode cX6_readSide 10 = .ok (.ldc2_w 57, 3) := by decide +kernel
theorem dX6_readSide_13 : decode cX6_readSide 13 = .ok (.land, 1) := by decide +kernel
theorem dX6_readSide_14 : decode cX6_readSide 14 = .ok (.lstore_n 2, 1) := by decide +kernel
theorem dX6_readSide_15 : decode cX6_readSide 15 = .ok (.lload_n 2, 1) := by decide +kernel
theorem dX6_readSide_16 : decode cX6_readSide 16 = .ok (.lconst 0, 1) := by decide +kernel
theorem dX6_readSide_17 : decode cX6_readSide 17 = .ok (.lcmp, 1) := by decide +kernel
theorem dX6_readSide_18 : decode cX6_readSide 18 = .ok (.ifCond .ne 9, 3) := by decide +kernel
theorem dX6_readSide_21 : decode cX6_readSide 21 = .ok (.aload_n 0, 1) := by decide +kernel
theorem dX6_readSide_22 : decode cX6_readSide 22 = .ok (.iconst 2, 1) := by decide +kernel
theorem dX6_readSide_23 : decode cX6_readSide 23 = .ok (.iload_n 1, 1) := by decide +kernel
theorem dX6_readSide_24 : decode cX6_readSide 24 = .ok (.invokevirtual 59, 3) := by decide +kernel
theorem dX6_readSide_27 : decode cX6_readSide 27 = .ok (.lload_n 2, 1) := by decide +kernel
theorem dX6_readSide_28 : decode cX6_readSide 28 = .ok (.lreturn, 1) := by decide +kernel
theorem dX6_readChoice_0 : decode cX6_readChoice 0 = .ok (.aload_n 0, 1) := by decide +kernel
theorem dX6_readChoice_1 : decode cX6_readChoice 1 = .ok (.getfield 25, 3) := by decide +kernel
theorem dX6_readChoice_4 : decode cX6_readChoice 4 = .ok (.istore_n 3, 1) := by decide +kernel
theorem dX6_readChoice_5 : decode cX6_readChoice 5 = .ok (.aload_n 0, 1) := by decide +kernel
theorem dX6_readChoice_6 : decode cX6_readChoice 6 = .ok (.invokevirtual 63, 3) := by decide +kernel
theorem dX6_readChoice_9 : decode cX6_readChoice 9 = .ok (.istore 4, 2) := by decide +kernel
theorem dX6_readChoice_11 : decode cX6_readChoice 11 = .ok (.iload 4, 2) := by decide +kernel
theorem dX6_readChoice_13 : decode cX6_readChoice 13 = .ok (.iload_n 1, 1) := by decide +kernel
theorem dX6_readChoice_14 : decode cX6_readChoice 14 = .ok (.if_icmp .eq 15, 3) := by decide +kernel
theorem dX6_readChoice_17 : decode cX6_readChoice 17 = .ok (.iload 4, 2) := by decide +kernel
theorem dX6_readChoice_19 : decode cX6_readChoice 19 = .ok (.iload_n 2, 1) := by decide +kernel
theorem dX6_readChoice_20 : decode cX6_readChoice 20 = .ok (.if_icmp .eq 9, 3) := by decide +kernel
theorem dX6_readChoice_23 : decode cX6_readChoice 23 = .ok (.aload_n 0, 1) := by decide +kernel
theorem dX6_readChoice_24 : decode cX6_readChoice 24 = .ok (.iconst 2, 1) := by decide +kernel
theorem dX6_readChoice_25 : decode cX6_readChoice 25 = .ok (.iload_n 3, 1) := by decide +kernel
theorem dX6_readChoice_26 : decode cX6_readChoice 26 = .ok (.invokevirtual 59, 3) := by decide +kernel
theorem dX6_readChoice_29 : decode cX6_readChoice 29 = .ok (.iload 4, 2) := by decide +kernel
theorem dX6_readChoice_31 : decode cX6_readChoice 31 = .ok (.ireturn, 1) := by decide +kernel
theorem dX6_readChunks_0 : decode cX6_readChunks 0 = .ok (.aload_n 0, 1) := by decide +kernel
theorem dX6_readChunks_1 : decode cX6_readChunks 1 = .ok (.invokevirtual 66, 3) := by decide +kernel
theorem dX6_readChunks_4 : decode cX6_readChunks 4 = .ok (.iconst 0, 1) := by decide +kernel
theorem dX6_readChunks_5 : decode cX6_readChunks 5 = .ok (.istore_n 3, 1) := by decide +kernel
theorem dX6_readChunks_6 : decode cX6_readChunks 6 = .ok (.iconst (-1), 1) := by decide +kernel
theorem dX6_readChunks_7 : decode cX6_readChunks 7 = .ok (.istore 4, 2) := by decide +kernel
theorem dX6_readChunks_9 : decode cX6_readChunks 9 = .ok (.iconst 1, 1) := by decide +kernel
theorem dX6_readChunks_10 : decode cX6_readChunks 10 = .ok (.istore 5, 2) := by decide +kernel
theorem dX6_readChunks_12 : decode cX6_readChunks 12 = .ok (.aload_n 2, 1) := by decide +kernel
theorem dX6_readChunks_13 : decode cX6_readChunks 13 = .ok (.invokevirtual 69, 3) := by decide +kernel
theorem dX6_readChunks_16 : decode cX6_readChunks 16 = .ok (.istore 6, 2) := by decide +kernel
theorem dX6_readChunks_18 : decode cX6_readChunks 18 = .ok (.iconst 0, 1) := by decide +kernel
theorem dX6_readChunks_19 : decode cX6_readChunks 19 = .ok (.istore 7, 2) := by decide +kernel
theorem dX6_readChunks_21 : decode cX6_readChunks 21 = .ok (.iload 7, 2) := by decide +kernel
theorem dX6_readChunks_23 : decode cX6_readChunks 23 = .ok (.iload 6, 2) := by decide +kernel
theorem dX6_readChunks_25 : decode cX6_readChunks 25 = .ok (.if_icmp .ge 136, 3) := by decide +kernel
theorem dX6_readChunks_28 : decode cX6_readChunks 28 = .ok (.aload_n 1, 1) := by decide +kernel
theorem dX6_readChunks_29 : decode cX6_readChunks 29 = .ok (.getfield 25, 3) := by decide +kernel
theorem dX6_readChunks_32 : decode cX6_readChunks 32 = .ok (.istore 8, 2) := by decide +kernel
theorem dX6_readChunks_34 : decode cX6_readChunks 34 = .ok (.aload_n 1, 1) := by decide +kernel
theorem dX6_readChunks_35 : decode cX6_readChunks 35 = .ok (.invokevirtual 63, 3) := by decide +kernel
theorem dX6_readChunks_38 : decode cX6_readChunks 38 = .ok (.istore 9, 2) := by decide +kernel
theorem dX6_readChunks_40 : decode cX6_readChunks 40 = .ok (.iload 9, 2) := by decide +kernel
theorem dX6_readChunks_42 : decode cX6_readChunks 42 = .ok (.sipush 192, 3) := by decide +kernel
theorem dX6_readChunks_45 : decode cX6_readChunks 45 = .ok (.if_icmp .lt 21, 3) := by decide +kernel
theorem dX6_readChunks_48 : decode cX6_readChunks 48 = .ok (.iload 9, 2) := by decide +kernel
theorem dX6_readChunks_50 : decode cX6_readChunks 50 = .ok (.sipush 254, 3) := by decide +kernel
theorem dX6_readChunks_53 : decode cX6_readChunks 53 = .ok (.if_icmp .ge 13, 3) := by decide +kernel
theorem dX6_readChunks_56 : decode cX6_readChunks 56 = .ok (.iload 9, 2) := by decide +kernel
theorem dX6_readChunks_58 : decode cX6_readChunks 58 = .ok (.bipush 63, 2) := by decide +kernel
theorem dX6_readChunks_60 : decode cX6_readChunks 60 = .ok (.iand, 1) := by decide +kernel
theorem dX6_readChunks_61 : decode cX6_readChunks 61 = .ok (.iconst 1, 1) := by decide +kernel
theorem dX6_readChunks_62 : decode cX6_readChunks 62 = .ok (.iadd, 1) := by decide +kernel
theorem dX6_readChunks_63 : decode cX6_readChunks 63 = .ok (.goto 4, 3) := by decide +kernel
theorem dX6_readChunks_66 : decode cX6_readChunks 66 = .ok (.iconst 1, 1) := by decide +kernel
theorem dX6_readChunks_67 : decode cX6_readChunks 67 = .ok (.istore 5, 2) := by decide +kernel
theorem dX6_readChunks_69 : decode cX6_readChunks 69 = .ok (.iload 5, 2) := by decide +kernel
theorem dX6_readChunks_71 : decode cX6_readChunks 71 = .ok (.iload 6, 2) := by decide +kernel
theorem dX6_readChunks_73 : decode cX6_readChunks 73 = .ok (.iload 7, 2) := by decide +kernel
theorem dX6_readChunks_75 : decode cX6_readChunks 75 = .ok (.isub, 1) := by decide +kernel
theorem dX6_readChunks_76 : decode cX6_readChunks 76 = .ok (.if_icmp .gt 17, 3) := by decide +kernel
theorem dX6_readChunks_79 : decode cX6_readChunks 79 = .ok (.iload 9, 2) := by decide +kernel
theorem dX6_readChunks_81 : decode cX6_readChunks 81 = .ok (.bipush 64, 2) := by decide +kernel
theorem dX6_readChunks_83 : decode cX6_readChunks 83 = .ok (.if_icmp .ge 17, 3) := by decide +kernel
theorem dX6_readChunks_86 : decode cX6_readChunks 86 = .ok (.iload 9, 2) := by decide +kernel
theorem dX6_readChunks_88 : decode cX6_readChunks 88 = .ok (.iload 4, 2) := by decide +kernel
theorem dX6_readChunks_90 : decode cX6_readChunks 90 = .ok (.if_icmp .ne 10, 3) := by decide +kernel
theorem dX6_readChunks_93 : decode cX6_readChunks 93 = .ok (.aload_n 1, 1) := by decide +kernel
theorem dX6_readChunks_94 : decode cX6_readChunks 94 = .ok (.iconst 4, 1) := by decide +kernel
theorem dX6_readChunks_95 : decode cX6_readChunks 95 = .ok (.iload 8, 2) := by decide +kernel
theorem dX6_readChunks_97 : decode cX6_readChunks 97 = .ok (.invokevirtual 59, 3) := by decide +kernel
theorem dX6_readChunks_100 : decode cX6_readChunks 100 = .ok (.aload_n 0, 1) := by decide +kernel
theorem dX6_readChunks_101 : decode cX6_readChunks 101 = .ok (.aload_n 0, 1) := by decide +kernel
theorem dX6_readChunks_102 : decode cX6_readChunks 102 = .ok (.aload_n 1, 1) := by decide +kernel
theorem dX6_readChunks_103 : decode cX6_readChunks 103 = .ok (.iload 9, 2) := by decide +kernel
theorem dX6_readChunks_105 : decode cX6_readChunks 105 = .ok (.invokevirtual 74, 3) := by decide +kernel
theorem dX6_readChunks_108 : decode cX6_readChunks 108 = .ok (.putfield 78, 3) := by decide +kernel
theorem dX6_readChunks_111 : decode cX6_readChunks 111 = .ok (.iconst 0, 1) := by decide +kernel
theorem dX6_readChunks_112 : decode cX6_readChunks 112 = .ok (.istore 10, 2) := by decide +kernel
theorem dX6_readChunks_114 : decode cX6_readChunks 114 = .ok (.iload 10, 2) := by decide +kernel
theorem dX6_readChunks_116 : decode cX6_readChunks 116 = .ok (.iload 5, 2) := by decide +kernel
theorem dX6_readChunks_118 : decode cX6_readChunks 118 = .ok (.if_icmp .ge 22, 3) := by decide +kernel
theorem dX6_readChunks_121 : decode cX6_readChunks 121 = .ok (.aload_n 2, 1) := by decide +kernel
theorem dX6_readChunks_122 : decode cX6_readChunks 122 = .ok (.iload 7, 2) := by decide +kernel
theorem dX6_readChunks_124 : decode cX6_readChunks 124 = .ok (.iload 10, 2) := by decide +kernel
theorem dX6_readChunks_126 : decode cX6_readChunks 126 = .ok (.iadd, 1) := by decide +kernel
theorem dX6_readChunks_127 : decode cX6_readChunks 127 = .ok (.aload_n 0, 1) := by decide +kernel
theorem dX6_readChunks_128 : decode cX6_readChunks 128 = .ok (.getfield 78, 3) := by decide +kernel
theorem dX6_readChunks_131 : decode cX6_readChunks 131 = .ok (.invokevirtual 81, 3) := by decide +kernel
theorem dX6_readChunks_134 : decode cX6_readChunks 134 = .ok (.iinc 10 1, 3) := by decide +kernel
theorem dX6_readChunks_137 : decode cX6_readChunks 137 = .ok (.goto (-23), 3) := by decide +kernel
theorem dX6_readChunks_140 : decode cX6_readChunks 140 = .ok (.aload_n 0, 1) := by decide +kernel
theorem dX6_readChunks_141 : decode cX6_readChunks 141 = .ok (.invokevirtual 84, 3) := by decide +kernel
theorem dX6_readChunks_144 : decode cX6_readChunks 144 = .ok (.iload 9, 2) := by decide +kernel
theorem dX6_readChunks_146 : decode cX6_readChunks 146 = .ok (.istore 4, 2) := by decide +kernel
theorem dX6_readChunks_148 : decode cX6_readChunks 148 = .ok (.iinc 3 1, 3) := by decide +kernel
theorem dX6_readChunks_151 : decode cX6_readChunks 151 = .ok (.iload 7, 2) := by decide +kernel
theorem dX6_readChunks_153 : decode cX6_readChunks 153 = .ok (.iload 5, 2) := by decide +kernel
theorem dX6_readChunks_155 : decode cX6_readChunks 155 = .ok (.iadd, 1) := by decide +kernel
theorem dX6_readChunks_156 : decode cX6_readChunks 156 = .ok (.istore 7, 2) := by decide +kernel
theorem dX6_readChunks_158 : decode cX6_readChunks 158 = .ok (.goto (-137), 3) := by decide +kernel
theorem dX6_readChunks_161 : decode cX6_readChunks 161 = .ok (.iload_n 3, 1) := by decide +kernel
theorem dX6_readChunks_162 : decode cX6_readChunks 162 = .ok (.ireturn, 1) := by decide +kernel
theorem dX6_readPixel_0 : decode cX6_readPixel 0 = .ok (.iload_n 2, 1) := by decide +kernel
theorem dX6_readPixel_1 : decode cX6_readPixel 1 = .ok (.bipush 64, 2) := by decide +kernel
theorem dX6_readPixel_3 : decode cX6_readPixel 3 = .ok (.if_icmp .ge 13, 3) := by decide +kernel
theorem dX6_readPixel_6 : decode cX6_readPixel 6 = .ok (.aload_n 0, 1) := by decide +kernel
theorem dX6_readPixel_7 : decode cX6_readPixel 7 = .ok (.getfield 9, 3) := by decide +kernel
theorem dX6_readPixel_10 : decode cX6_readPixel 10 = .ok (.iload_n 2, 1) := by decide +kernel
theorem dX6_readPixel_11 : decode cX6_readPixel 11 = .ok (.bipush 63, 2) := by decide +kernel
theorem dX6_readPixel_13 : decode cX6_readPixel 13 = .ok (.iand, 1) := by decide +kernel
theorem dX6_readPixel_14 : decode cX6_readPixel 14 = .ok (.iaload, 1) := by decide +kernel
theorem dX6_readPixel_15 : decode cX6_readPixel 15 = .ok (.ireturn, 1) := by decide +kernel
theorem dX6_readPixel_16 : decode cX6_readPixel 16 = .ok (.iload_n 2, 1) := by decide +kernel
theorem dX6_readPixel_17 : decode cX6_readPixel 17 = .ok (.sipush 128, 3) := by decide +kernel
theorem dX6_readPixel_20 : decode cX6_readPixel 20 = .ok (.if_icmp .ge 27, 3) := by decide +kernel
theorem dX6_readPixel_23 : decode cX6_readPixel 23 = .ok (.aload_n 0, 1) := by decide +kernel
theorem dX6_readPixel_24 : decode cX6_readPixel 24 = .ok (.iload_n 2, 1) := by decide +kernel
theorem dX6_readPixel_25 : decode cX6_readPixel 25 = .ok (.iconst 4, 1) := by decide +kernel
theorem dX6_readPixel_26 : decode cX6_readPixel 26 = .ok (.ishr, 1) := by decide +kernel
theorem dX6_readPixel_27 : decode cX6_readPixel 27 = .ok (.iconst 3, 1) := by decide +kernel
theorem dX6_readPixel_28 : decode cX6_readPixel 28 = .ok (.iand, 1) := by decide +kernel
theorem dX6_readPixel_29 : decode cX6_readPixel 29 = .ok (.iconst 2, 1) := by decide +kernel
theorem dX6_readPixel_30 : decode cX6_readPixel 30 = .ok (.isub, 1) := by decide +kernel
theorem dX6_readPixel_31 : decode cX6_readPixel 31 = .ok (.iload_n 2, 1) := by decide +kernel
theorem dX6_readPixel_32 : decode cX6_readPixel 32 = .ok (.iconst 2, 1) := by decide +kernel
theorem dX6_readPixel_33 : decode cX6_readPixel 33 = .ok (.ishr, 1) := by decide +kernel
theorem dX6_readPixel_34 : decode cX6_readPixel 34 = .ok (.iconst 3, 1) := by decide +kernel
theorem dX6_readPixel_35 : decode cX6_readPixel 35 = .ok (.iand, 1) := by decide +kernel
theorem dX6_readPixel_36 : decode cX6_readPixel 36 = .ok (.iconst 2, 1) := by decide +kernel
theorem dX6_readPixel_37 : decode cX6_readPixel 37 = .ok (.isub, 1) := by decide +kernel
theorem dX6_readPixel_38 : decode cX6_readPixel 38 = .ok (.iload_n 2, 1) := by decide +kernel
theorem dX6_readPixel_39 : decode cX6_readPixel 39 = .ok (.iconst 3, 1) := by decide +kernel
theorem dX6_readPixel_40 : decode cX6_readPixel 40 = .ok (.iand, 1) := by decide +kernel
theorem dX6_readPixel_41 : decode cX6_readPixel 41 = .ok (.iconst 2, 1) := by decide +kernel
theorem dX6_readPixel_42 : decode cX6_readPixel 42 = .ok (.isub, 1) := by decide +kernel
theorem dX6_readPixel_43 : decode cX6_readPixel 43 = .ok (.invokevirtual 87, 3) := by decide +kernel
theorem dX6_readPixel_46 : decode cX6_readPixel 46 = .ok (.ireturn, 1) := by decide +kernel
theorem dX6_readPixel_47 : decode cX6_readPixel 47 = .ok (.iload_n 2, 1) := by decide +kernel
theorem dX6_readPixel_48 : decode cX6_readPixel 48 = .ok (.sipush 192, 3) := by decide +kernel
theorem dX6_readPixel_51 : decode cX6_readPixel 51 = .ok (.if_icmp .ge 43, 3) := by decide +kernel
theorem dX6_readPixel_54 : decode cX6_readPixel 54 = .ok (.aload_n 1, 1) := by decide +kernel
theorem dX6_readPixel_55 : decode cX6_readPixel 55 = .ok (.invokevirtual 63, 3) := by decide +kernel
theorem dX6_readPixel_58 : decode cX6_readPixel 58 = .ok (.istore_n 3, 1) := by decide +kernel
theorem dX6_readPixel_59 : decode cX6_readPixel 59 = .ok (.iload_n 2, 1) := by decide +kernel
theorem dX6_readPixel_60 : decode cX6_readPixel 60 = .ok (.bipush 63, 2) := by decide +kernel
theorem dX6_readPixel_62 : decode cX6_readPixel 62 = .ok (.iand, 1) := by decide +kernel
theorem dX6_readPixel_63 : decode cX6_readPixel 63 = .ok (.bipush 32, 2) := by decide +kernel
theorem dX6_readPixel_65 : decode cX6_readPixel 65 = .ok (.isub, 1) := by decide +kernel
theorem dX6_readPixel_66 : decode cX6_readPixel 66 = .ok (.istore 4, 2) := by decide +kernel
theorem dX6_readPixel_68 : decode cX6_readPixel 68 = .ok (.aload_n 0, 1) := by decide +kernel
theorem dX6_readPixel_69 : decode cX6_readPixel 69 = .ok (.iload 4, 2) := by decide +kernel
theorem dX6_readPixel_71 : decode cX6_readPixel 71 = .ok (.iload_n 3, 1) := by decide +kernel
theorem dX6_readPixel_72 : decode cX6_readPixel 72 = .ok (.iconst 4, 1) := by decide +kernel
theorem dX6_readPixel_73 : decode cX6_readPixel 73 = .ok (.ishr, 1) := by decide +kernel
theorem dX6_readPixel_74 : decode cX6_readPixel 74 = .ok (.iadd, 1) := by decide +kernel
theorem dX6_readPixel_75 : decode cX6_readPixel 75 = .ok (.bipush 8, 2) := by decide +kernel
theorem dX6_readPixel_77 : decode cX6_readPixel 77 = .ok (.isub, 1) := by decide +kernel
theorem dX6_readPixel_78 : decode cX6_readPixel 78 = .ok (.iload 4, 2) := by decide +kernel
theorem dX6_readPixel_80 : decode cX6_readPixel 80 = .ok (.iload 4, 2) := by decide +kernel
theorem dX6_readPixel_82 : decode cX6_readPixel 82 = .ok (.iload_n 3, 1) := by decide +kernel
theorem dX6_readPixel_83 : decode cX6_readPixel 83 = .ok (.bipush 15, 2) := by decide +kernel
theorem dX6_readPixel_85 : decode cX6_readPixel 85 = .ok (.iand, 1) := by decide +kernel
theorem dX6_readPixel_86 : decode cX6_readPixel 86 = .ok (.iadd, 1) := by decide +kernel
theorem dX6_readPixel_87 : decode cX6_readPixel 87 = .ok (.bipush 8, 2) := by decide +kernel
theorem dX6_readPixel_89 : decode cX6_readPixel 89 = .ok (.isub, 1) := by decide +kernel
theorem dX6_readPixel_90 : decode cX6_readPixel 90 = .ok (.invokevirtual 87, 3) := by decide +kernel
theorem dX6_readPixel_93 : decode cX6_readPixel 93 = .ok (.ireturn, 1) := by decide +kernel
theorem dX6_readPixel_94 : decode cX6_readPixel 94 = .ok (.iload_n 2, 1) := by decide +kernel
theorem dX6_readPixel_95 : decode cX6_readPixel 95 = .ok (.sipush 254, 3) := by decide +kernel
theorem dX6_readPixel_98 : decode cX6_readPixel 98 = .ok (.if_icmp .ge 8, 3) := by decide +kernel
theorem dX6_readPixel_101 : decode cX6_readPixel 101 = .ok (.aload_n 0, 1) := by decide +kernel
theorem dX6_readPixel_102 : decode cX6_readPixel 102 = .ok (.getfield 78, 3) := by decide +kernel
theorem dX6_readPixel_105 : decode cX6_readPixel 105 = .ok (.ireturn, 1) := by decide +kernel
theorem dX6_readPixel_106 : decode cX6_readPixel 106 = .ok (.aload_n 1, 1) := by decide +kernel
theorem dX6_readPixel_107 : decode cX6_readPixel 107 = .ok (.invokevirtual 63, 3) := by decide +kernel
theorem dX6_readPixel_110 : decode cX6_readPixel 110 = .ok (.istore_n 3, 1) := by decide +kernel
theorem dX6_readPixel_111 : decode cX6_readPixel 111 = .ok (.aload_n 1, 1) := by decide +kernel
theorem dX6_readPixel_112 : decode cX6_readPixel 112 = .ok (.invokevirtual 63, 3) := by decide +kernel
theorem dX6_readPixel_115 : decode cX6_readPixel 115 = .ok (.istore 4, 2) := by decide +kernel
theorem dX6_readPixel_117 : decode cX6_readPixel 117 = .ok (.aload_n 1, 1) := by decide +kernel
theorem dX6_readPixel_118 : decode cX6_readPixel 118 = .ok (.invokevirtual 63, 3) := by decide +kernel
theorem dX6_readPixel_121 : decode cX6_readPixel 121 = .ok (.istore 5, 2) := by decide +kernel
theorem dX6_readPixel_123 : decode cX6_readPixel 123 = .ok (.iload_n 3, 1) := by decide +kernel
theorem dX6_readPixel_124 : decode cX6_readPixel 124 = .ok (.iload 4, 2) := by decide +kernel
theorem dX6_readPixel_126 : decode cX6_readPixel 126 = .ok (.iload 5, 2) := by decide +kernel
theorem dX6_readPixel_128 : decode cX6_readPixel 128 = .ok (.iload_n 2, 1) := by decide +kernel
theorem dX6_readPixel_129 : decode cX6_readPixel 129 = .ok (.sipush 255, 3) := by decide +kernel
theorem dX6_readPixel_132 : decode cX6_readPixel 132 = .ok (.if_icmp .ne 10, 3) := by decide +kernel
theorem dX6_readPixel_135 : decode cX6_readPixel 135 = .ok (.aload_n 1, 1) := by decide +kernel
theorem dX6_readPixel_136 : decode cX6_readPixel 136 = .ok (.invokevirtual 63, 3) := by decide +kernel
theorem dX6_readPixel_139 : decode cX6_readPixel 139 = .ok (.goto 10, 3) := by decide +kernel
theorem dX6_readPixel_142 : decode cX6_readPixel 142 = .ok (.aload_n 0, 1) := by decide +kernel
theorem dX6_readPixel_143 : decode cX6_readPixel 143 = .ok (.getfield 78, 3) := by decide +kernel
theorem dX6_readPixel_146 : decode cX6_readPixel 146 = .ok (.invokestatic 91, 3) := by decide +kernel
theorem dX6_readPixel_149 : decode cX6_readPixel 149 = .ok (.invokestatic 95, 3) := by decide +kernel
theorem dX6_readPixel_152 : decode cX6_readPixel 152 = .ok (.ireturn, 1) := by decide +kernel
theorem dX6_moved_0 : decode cX6_moved 0 = .ok (.aload_n 0, 1) := by decide +kernel
theorem dX6_moved_1 : decode cX6_moved 1 = .ok (.getfield 78, 3) := by decide +kernel
theorem dX6_moved_4 : decode cX6_moved 4 = .ok (.invokestatic 99, 3) := by decide +kernel
theorem dX6_moved_7 : decode cX6_moved 7 = .ok (.iload_n 1, 1) := by decide +kernel
theorem dX6_moved_8 : decode cX6_moved 8 = .ok (.iadd, 1) := by decide +kernel
theorem dX6_moved_9 : decode cX6_moved 9 = .ok (.sipush 255, 3) := by decide +kernel
theorem dX6_moved_12 : decode cX6_moved 12 = .ok (.iand, 1) := by decide +kernel
theorem dX6_moved_13 : decode cX6_moved 13 = .ok (.aload_n 0, 1) := by decide +kernel
theorem dX6_moved_14 : decode cX6_moved 14 = .ok (.getfield 78, 3) := by decide +kernel
theorem dX6_moved_17 : decode cX6_moved 17 = .ok (.invokestatic 102, 3) := by decide +kernel
theorem dX6_moved_20 : decode cX6_moved 20 = .ok (.iload_n 2, 1) := by decide +kernel
theorem dX6_moved_21 : decode cX6_moved 21 = .ok (.iadd, 1) := by decide +kernel
theorem dX6_moved_22 : decode cX6_moved 22 = .ok (.sipush 255, 3) := by decide +kernel
theorem dX6_moved_25 : decode cX6_moved 25 = .ok (.iand, 1) := by decide +kernel
theorem dX6_moved_26 : decode cX6_moved 26 = .ok (.aload_n 0, 1) := by decide +kernel
theorem dX6_moved_27 : decode cX6_moved 27 = .ok (.getfield 78, 3) := by decide +kernel
theorem dX6_moved_30 : decode cX6_moved 30 = .ok (.invokestatic 105, 3) := by decide +kernel
theorem dX6_moved_33 : decode cX6_moved 33 = .ok (.iload_n 3, 1) := by decide +kernel
theorem dX6_moved_34 : decode cX6_moved 34 = .ok (.iadd, 1) := by decide +kernel
theorem dX6_moved_35 : decode cX6_moved 35 = .ok (.sipush 255, 3) := by decide +kernel
theorem dX6_moved_38 : decode cX6_moved 38 = .ok (.iand, 1) := by decide +kernel
theorem dX6_moved_39 : decode cX6_moved 39 = .ok (.aload_n 0, 1) := by decide +kernel
theorem dX6_moved_40 : decode cX6_moved 40 = .ok (.getfield 78, 3) := by decide +kernel
theorem dX6_moved_43 : decode cX6_moved 43 = .ok (.invokestatic 91, 3) := by decide +kernel
theorem dX6_moved_46 : decode cX6_moved 46 = .ok (.invokestatic 95, 3) := by decide +kernel
theorem dX6_moved_49 : decode cX6_moved 49 = .ok (.ireturn, 1) := by decide +kernel
theorem dX6_start_0 : decode cX6_start 0 = .ok (.aload_n 0, 1) := by decide +kernel
theorem dX6_start_1 : decode cX6_start 1 = .ok (.sipush 255, 3) := by decide +kernel
theorem dX6_start_4 : decode cX6_start 4 = .ok (.putfield 78, 3) := by decide +kernel
theorem dX6_start_7 : decode cX6_start 7 = .ok (.aload_n 0, 1) := by decide +kernel
theorem dX6_start_8 : decode cX6_start 8 = .ok (.getfield 9, 3) := by decide +kernel
theorem dX6_start_11 : decode cX6_start 11 = .ok (.iconst 0, 1) := by decide +kernel
theorem dX6_start_12 : decode cX6_start 12 = .ok (.invokestatic 108, 3) := by decide +kernel
theorem dX6_start_15 : decode cX6_start 15 = .ok (.return_, 1) := by decide +kernel
theorem dX6_homeOf_0 : decode cX6_homeOf 0 = .ok (.iconst 3, 1) := by decide +kernel
theorem dX6_homeOf_1 : decode cX6_homeOf 1 = .ok (.iload_n 0, 1) := by decide +kernel
theorem dX6_homeOf_2 : decode cX6_homeOf 2 = .ok (.invokestatic 99, 3) := by decide +kernel
theorem dX6_homeOf_5 : decode cX6_homeOf 5 = .ok (.imul, 1) := by decide +kernel
theorem dX6_homeOf_6 : decode cX6_homeOf 6 = .ok (.iconst 5, 1) := by decide +kernel
theorem dX6_homeOf_7 : decode cX6_homeOf 7 = .ok (.iload_n 0, 1) := by decide +kernel
theorem dX6_homeOf_8 : decode cX6_homeOf 8 = .ok (.invokestatic 102, 3) := by decide +kernel
theorem dX6_homeOf_11 : decode cX6_homeOf 11 = .ok (.imul, 1) := by decide +kernel
theorem dX6_homeOf_12 : decode cX6_homeOf 12 = .ok (.iadd, 1) := by decide +kernel
theorem dX6_homeOf_13 : decode cX6_homeOf 13 = .ok (.bipush 7, 2) := by decide +kernel
theorem dX6_homeOf_15 : decode cX6_homeOf 15 = .ok (.iload_n 0, 1) := by decide +kernel
theorem dX6_homeOf_16 : decode cX6_homeOf 16 = .ok (.invokestatic 105, 3) := by decide +kernel
theorem dX6_homeOf_19 : decode cX6_homeOf 19 = .ok (.imul, 1) := by decide +kernel
theorem dX6_homeOf_20 : decode cX6_homeOf 20 = .ok (.iadd, 1) := by decide +kernel
theorem dX6_homeOf_21 : decode cX6_homeOf 21 = .ok (.bipush 11, 2) := by decide +kernel
theorem dX6_homeOf_23 : decode cX6_homeOf 23 = .ok (.iload_n 0, 1) := by decide +kernel
theorem dX6_homeOf_24 : decode cX6_homeOf 24 = .ok (.invokestatic 91, 3) := by decide +kernel
theorem dX6_homeOf_27 : decode cX6_homeOf 27 = .ok (.imul, 1) := by decide +kernel
theorem dX6_homeOf_28 : decode cX6_homeOf 28 = .ok (.iadd, 1) := by decide +kernel
theorem dX6_homeOf_29 : decode cX6_homeOf 29 = .ok (.bipush 63, 2) := by decide +kernel
theorem dX6_homeOf_31 : decode cX6_homeOf 31 = .ok (.iand, 1) := by decide +kernel
theorem dX6_homeOf_32 : decode cX6_homeOf 32 = .ok (.ireturn, 1) := by decide +kernel
theorem dX6_keep_0 : decode cX6_keep 0 = .ok (.aload_n 0, 1) := by decide +kernel
theorem dX6_keep_1 : decode cX6_keep 1 = .ok (.getfield 9, 3) := by decide +kernel
theorem dX6_keep_4 : decode cX6_keep 4 = .ok (.aload_n 0, 1) := by decide +kernel
theorem dX6_keep_5 : decode cX6_keep 5 = .ok (.getfield 78, 3) := by decide +kernel
theorem dX6_keep_8 : decode cX6_keep 8 = .ok (.invokestatic 114, 3) := by decide +kernel
theorem dX6_keep_11 : decode cX6_keep 11 = .ok (.aload_n 0, 1) := by decide +kernel
theorem dX6_keep_12 : decode cX6_keep 12 = .ok (.getfield 78, 3) := by decide +kernel
theorem dX6_keep_15 : decode cX6_keep 15 = .ok (.iastore, 1) := by decide +kernel
theorem dX6_keep_16 : decode cX6_keep 16 = .ok (.return_, 1) := by decide +kernel
theorem dX6_encode_0 : decode cX6_encode 0 = .ok (.aload_n 3, 1) := by decide +kernel
theorem dX6_encode_1 : decode cX6_encode 1 = .ok (.bipush 113, 2) := by decide +kernel
theorem dX6_encode_3 : decode cX6_encode 3 = .ok (.invokevirtual 117, 3) := by decide +kernel
theorem dX6_encode_6 : decode cX6_encode 6 = .ok (.aload_n 3, 1) := by decide +kernel
theorem dX6_encode_7 : decode cX6_encode 7 = .ok (.bipush 111, 2) := by decide +kernel
theorem dX6_encode_9 : decode cX6_encode 9 = .ok (.invokevirtual 117, 3) := by decide +kernel
theorem dX6_encode_12 : decode cX6_encode 12 = .ok (.aload_n 3, 1) := by decide +kernel
theorem dX6_encode_13 : decode cX6_encode 13 = .ok (.bipush 105, 2) := by decide +kernel
theorem dX6_encode_15 : decode cX6_encode 15 = .ok (.invokevirtual 117, 3) := by decide +kernel
theorem dX6_encode_18 : decode cX6_encode 18 = .ok (.aload_n 3, 1) := by decide +kernel
theorem dX6_encode_19 : decode cX6_encode 19 = .ok (.bipush 102, 2) := by decide +kernel
theorem dX6_encode_21 : decode cX6_encode 21 = .ok (.invokevirtual 117, 3) := by decide +kernel
theorem dX6_encode_24 : decode cX6_encode 24 = .ok (.aload_n 3, 1) := by decide +kernel
theorem dX6_encode_25 : decode cX6_encode 25 = .ok (.aload_n 1, 1) := by decide +kernel
theorem dX6_encode_26 : decode cX6_encode 26 = .ok (.getfield 122, 3) := by decide +kernel
theorem dX6_encode_29 : decode cX6_encode 29 = .ok (.invokevirtual 125, 3) := by decide +kernel
theorem dX6_encode_32 : decode cX6_encode 32 = .ok (.aload_n 3, 1) := by decide +kernel
theorem dX6_encode_33 : decode cX6_encode 33 = .ok (.aload_n 1, 1) := by decide +kernel
theorem dX6_encode_34 : decode cX6_encode 34 = .ok (.getfield 128, 3) := by decide +kernel
theorem dX6_encode_37 : decode cX6_encode 37 = .ok (.invokevirtual 125, 3) := by decide +kernel
theorem dX6_encode_40 : decode cX6_encode 40 = .ok (.aload_n 3, 1) := by decide +kernel
theorem dX6_encode_41 : decode cX6_encode 41 = .ok (.aload_n 1, 1) := by decide +kernel
theorem dX6_encode_42 : decode cX6_encode 42 = .ok (.invokevirtual 131, 3) := by decide +kernel
theorem dX6_encode_45 : decode cX6_encode 45 = .ok (.ifCond .eq 7, 3) := by decide +kernel
theorem dX6_encode_48 : decode cX6_encode 48 = .ok (.iconst 3, 1) := by decide +kernel
theorem dX6_encode_49 : decode cX6_encode 49 = .ok (.goto 4, 3) := by decide +kernel
theorem dX6_encode_52 : decode cX6_encode 52 = .ok (.iconst 4, 1) := by decide +kernel
theorem dX6_encode_53 : decode cX6_encode 53 = .ok (.invokevirtual 117, 3) := by decide +kernel
theorem dX6_encode_56 : decode cX6_encode 56 = .ok (.aload_n 3, 1) := by decide +kernel
theorem dX6_encode_57 : decode cX6_encode 57 = .ok (.iconst 0, 1) := by decide +kernel
theorem dX6_encode_58 : decode cX6_encode 58 = .ok (.invokevirtual 117, 3) := by decide +kernel
theorem dX6_encode_61 : decode cX6_encode 61 = .ok (.aload_n 0, 1) := by decide +kernel
theorem dX6_encode_62 : decode cX6_encode 62 = .ok (.aload_n 1, 1) := by decide +kernel
theorem dX6_encode_63 : decode cX6_encode 63 = .ok (.aload_n 3, 1) := by decide +kernel
theorem dX6_encode_64 : decode cX6_encode 64 = .ok (.invokevirtual 135, 3) := by decide +kernel
theorem dX6_encode_67 : decode cX6_encode 67 = .ok (.aload_n 3, 1) := by decide +kernel
theorem dX6_encode_68 : decode cX6_encode 68 = .ok (.bipush 7, 2) := by decide +kernel
theorem dX6_encode_70 : decode cX6_encode 70 = .ok (.invokevirtual 139, 3) := by decide +kernel
theorem dX6_encode_73 : decode cX6_encode 73 = .ok (.aload_n 3, 1) := by decide +kernel
theorem dX6_encode_74 : decode cX6_encode 74 = .ok (.iconst 1, 1) := by decide +kernel
theorem dX6_encode_75 : decode cX6_encode 75 = .ok (.invokevirtual 117, 3) := by decide +kernel
theorem dX6_encode_78 : decode cX6_encode 78 = .ok (.return_, 1) := by decide +kernel
theorem dX6_writeChunks_0 : decode cX6_writeChunks 0 = .ok (.aload_n 0, 1) := by decide +kernel
theorem dX6_writeChunks_1 : decode cX6_writeChunks 1 = .ok (.invokevirtual 66, 3) := by decide +kernel
theorem dX6_writeChunks_4 : decode cX6_writeChunks 4 = .ok (.iconst 1, 1) := by decide +kernel
theorem dX6_writeChunks_5 : decode cX6_writeChunks 5 = .ok (.istore_n 3, 1) := by decide +kernel
theorem dX6_writeChunks_6 : decode cX6_writeChunks 6 = .ok (.aload_n 1, 1) := by decide +kernel
theorem dX6_writeChunks_7 : decode cX6_writeChunks 7 = .ok (.invokevirtual 69, 3) := by decide +kernel
theorem dX6_writeChunks_10 : decode cX6_writeChunks 10 = .ok (.istore 4, 2) := by decide +kernel
theorem dX6_writeChunks_12 : decode cX6_writeChunks 12 = .ok (.iconst 0, 1) := by decide +kernel
theorem dX6_writeChunks_13 : decode cX6_writeChunks 13 = .ok (.istore 5, 2) := by decide +kernel
theorem dX6_writeChunks_15 : decode cX6_writeChunks 15 = .ok (.iload 5, 2) := by decide +kernel
theorem dX6_writeChunks_17 : decode cX6_writeChunks 17 = .ok (.iload 4, 2) := by decide +kernel
theorem dX6_writeChunks_19 : decode cX6_writeChunks 19 = .ok (.if_icmp .ge 71, 3) := by decide +kernel
theorem dX6_writeChunks_22 : decode cX6_writeChunks 22 = .ok (.aload_n 0, 1) := by decide +kernel
theorem dX6_writeChunks_23 : decode cX6_writeChunks 23 = .ok (.aload_n 1, 1) := by decide +kernel
theorem dX6_writeChunks_24 : decode cX6_writeChunks 24 = .ok (.iload 5, 2) := by decide +kernel
theorem dX6_writeChunks_26 : decode cX6_writeChunks 26 = .ok (.invokevirtual 142, 3) := by decide +kernel
theorem dX6_writeChunks_29 : decode cX6_writeChunks 29 = .ok (.istore 6, 2) := by decide +kernel
theorem dX6_writeChunks_31 : decode cX6_writeChunks 31 = .ok (.iload 6, 2) := by decide +kernel
theorem dX6_writeChunks_33 : decode cX6_writeChunks 33 = .ok (.ifCond .le 16, 3) := by decide +kernel
theorem dX6_writeChunks_36 : decode cX6_writeChunks 36 = .ok (.aload_n 2, 1) := by decide +kernel
theorem dX6_writeChunks_37 : decode cX6_writeChunks 37 = .ok (.sipush 191, 3) := by decide +kernel
theorem dX6_writeChunks_40 : decode cX6_writeChunks 40 = .ok (.iload 6, 2) := by decide +kernel
theorem dX6_writeChunks_42 : decode cX6_writeChunks 42 = .ok (.iadd, 1) := by decide +kernel
theorem dX6_writeChunks_43 : decode cX6_writeChunks 43 = .ok (.invokevirtual 117, 3) := by decide +kernel
theorem dX6_writeChunks_46 : decode cX6_writeChunks 46 = .ok (.goto 24, 3) := by decide +kernel
theorem dX6_writeChunks_49 : decode cX6_writeChunks 49 = .ok (.aload_n 0, 1) := by decide +kernel
theorem dX6_writeChunks_50 : decode cX6_writeChunks 50 = .ok (.aload_n 1, 1) := by decide +kernel
theorem dX6_writeChunks_51 : decode cX6_writeChunks 51 = .ok (.iload 5, 2) := by decide +kernel
theorem dX6_writeChunks_53 : decode cX6_writeChunks 53 = .ok (.invokevirtual 146, 3) := by decide +kernel
theorem dX6_writeChunks_56 : decode cX6_writeChunks 56 = .ok (.aload_n 2, 1) := by decide +kernel
theorem dX6_writeChunks_57 : decode cX6_writeChunks 57 = .ok (.invokevirtual 149, 3) := by decide +kernel
theorem dX6_writeChunks_60 : decode cX6_writeChunks 60 = .ok (.aload_n 0, 1) := by decide +kernel
theorem dX6_writeChunks_61 : decode cX6_writeChunks 61 = .ok (.aload_n 1, 1) := by decide +kernel
theorem dX6_writeChunks_62 : decode cX6_writeChunks 62 = .ok (.iload 5, 2) := by decide +kernel
theorem dX6_writeChunks_64 : decode cX6_writeChunks 64 = .ok (.invokevirtual 146, 3) := by decide +kernel
theorem dX6_writeChunks_67 : decode cX6_writeChunks 67 = .ok (.putfield 78, 3) := by decide +kernel
theorem dX6_writeChunks_70 : decode cX6_writeChunks 70 = .ok (.aload_n 0, 1) := by decide +kernel
theorem dX6_writeChunks_71 : decode cX6_writeChunks 71 = .ok (.invokevirtual 84, 3) := by decide +kernel
theorem dX6_writeChunks_74 : decode cX6_writeChunks 74 = .ok (.iload 6, 2) := by decide +kernel
theorem dX6_writeChunks_76 : decode cX6_writeChunks 76 = .ok (.iconst 1, 1) := by decide +kernel
theorem dX6_writeChunks_77 : decode cX6_writeChunks 77 = .ok (.invokestatic 153, 3) := by decide +kernel
theorem dX6_writeChunks_80 : decode cX6_writeChunks 80 = .ok (.istore_n 3, 1) := by decide +kernel
theorem dX6_writeChunks_81 : decode cX6_writeChunks 81 = .ok (.iload 5, 2) := by decide +kernel
theorem dX6_writeChunks_83 : decode cX6_writeChunks 83 = .ok (.iload_n 3, 1) := by decide +kernel
theorem dX6_writeChunks_84 : decode cX6_writeChunks 84 = .ok (.iadd, 1) := by decide +kernel
theorem dX6_writeChunks_85 : decode cX6_writeChunks 85 = .ok (.istore 5, 2) := by decide +kernel
theorem dX6_writeChunks_87 : decode cX6_writeChunks 87 = .ok (.goto (-72), 3) := by decide +kernel
theorem dX6_writeChunks_90 : decode cX6_writeChunks 90 = .ok (.return_, 1) := by decide +kernel
theorem dX6_runAt_0 : decode cX6_runAt 0 = .ok (.bipush 62, 2) := by decide +kernel
theorem dX6_runAt_2 : decode cX6_runAt 2 = .ok (.aload_n 1, 1) := by decide +kernel
theorem dX6_runAt_3 : decode cX6_runAt 3 = .ok (.invokevirtual 69, 3) := by decide +kernel
theorem dX6_runAt_6 : decode cX6_runAt 6 = .ok (.iload_n 2, 1) := by decide +kernel
theorem dX6_runAt_7 : decode cX6_runAt 7 = .ok (.isub, 1) := by decide +kernel
theorem dX6_runAt_8 : decode cX6_runAt 8 = .ok (.invokestatic 159, 3) := by decide +kernel
theorem dX6_runAt_11 : decode cX6_runAt 11 = .ok (.istore_n 3, 1) := by decide +kernel
theorem dX6_runAt_12 : decode cX6_runAt 12 = .ok (.iconst 0, 1) := by decide +kernel
theorem dX6_runAt_13 : decode cX6_runAt 13 = .ok (.istore 4, 2) := by decide +kernel
theorem dX6_runAt_15 : decode cX6_runAt 15 = .ok (.iload 4, 2) := by decide +kernel
theorem dX6_runAt_17 : decode cX6_runAt 17 = .ok (.iload_n 3, 1) := by decide +kernel
theorem dX6_runAt_18 : decode cX6_runAt 18 = .ok (.if_icmp .ge 27, 3) := by decide +kernel
theorem dX6_runAt_21 : decode cX6_runAt 21 = .ok (.aload_n 1, 1) := by decide +kernel
theorem dX6_runAt_22 : decode cX6_runAt 22 = .ok (.iload_n 2, 1) := by decide +kernel
theorem dX6_runAt_23 : decode cX6_runAt 23 = .ok (.iload 4, 2) := by decide +kernel
theorem dX6_runAt_25 : decode cX6_runAt 25 = .ok (.iadd, 1) := by decide +kernel
theorem dX6_runAt_26 : decode cX6_runAt 26 = .ok (.invokevirtual 146, 3) := by decide +kernel
theorem dX6_runAt_29 : decode cX6_runAt 29 = .ok (.aload_n 0, 1) := by decide +kernel
theorem dX6_runAt_30 : decode cX6_runAt 30 = .ok (.getfield 78, 3) := by decide +kernel
theorem dX6_runAt_33 : decode cX6_runAt 33 = .ok (.if_icmp .eq 6, 3) := by decide +kernel
theorem dX6_runAt_36 : decode cX6_runAt 36 = .ok (.iload 4, 2) := by decide +kernel
theorem dX6_runAt_38 : decode cX6_runAt 38 = .ok (.ireturn, 1) := by decide +kernel
theorem dX6_runAt_39 : decode cX6_runAt 39 = .ok (.iinc 4 1, 3) := by decide +kernel
theorem dX6_runAt_42 : decode cX6_runAt 42 = .ok (.goto (-27), 3) := by decide +kernel
theorem dX6_runAt_45 : decode cX6_runAt 45 = .ok (.iload_n 3, 1) := by decide +kernel
theorem dX6_runAt_46 : decode cX6_runAt 46 = .ok (.ireturn, 1) := by decide +kernel
theorem dX6_writePixel_0 : decode cX6_writePixel 0 = .ok (.aload_n 0, 1) := by decide +kernel
theorem dX6_writePixel_1 : decode cX6_writePixel 1 = .ok (.getfield 9, 3) := by decide +kernel
theorem dX6_writePixel_4 : decode cX6_writePixel 4 = .ok (.iload_n 1, 1) := by decide +kernel
theorem dX6_writePixel_5 : decode cX6_writePixel 5 = .ok (.invokestatic 114, 3) := by decide +kernel
theorem dX6_writePixel_8 : decode cX6_writePixel 8 = .ok (.iaload, 1) := by decide +kernel
theorem dX6_writePixel_9 : decode cX6_writePixel 9 = .ok (.iload_n 1, 1) := by decide +kernel
theorem dX6_writePixel_10 : decode cX6_writePixel 10 = .ok (.if_icmp .ne 14, 3) := by decide +kernel
theorem dX6_writePixel_13 : decode cX6_writePixel 13 = .ok (.aload_n 2, 1) := by decide +kernel
theorem dX6_writePixel_14 : decode cX6_writePixel 14 = .ok (.iload_n 1, 1) := by decide +kernel
theorem dX6_writePixel_15 : decode cX6_writePixel 15 = .ok (.invokestatic 114, 3) := by decide +kernel
theorem dX6_writePixel_18 : decode cX6_writePixel 18 = .ok (.invokevirtual 117, 3) := by decide +kernel
theorem dX6_writePixel_21 : decode cX6_writePixel 21 = .ok (.goto 72, 3) := by decide +kernel
theorem dX6_writePixel_24 : decode cX6_writePixel 24 = .ok (.iload_n 1, 1) := by decide +kernel
theorem dX6_writePixel_25 : decode cX6_writePixel 25 = .ok (.invokestatic 91, 3) := by decide +kernel
theorem dX6_writePixel_28 : decode cX6_writePixel 28 = .ok (.aload_n 0, 1) := by decide +kernel
theorem dX6_writePixel_29 : decode cX6_writePixel 29 = .ok (.getfield 78, 3) := by decide +kernel
theorem dX6_writePixel_32 : decode cX6_writePixel 32 = .ok (.invokestatic 91, 3) := by decide +kernel
theorem dX6_writePixel_35 : decode cX6_writePixel 35 = .ok (.if_icmp .eq 18, 3) := by decide +kernel
theorem dX6_writePixel_38 : decode cX6_writePixel 38 = .ok (.aload_n 2, 1) := by decide +kernel
theorem dX6_writePixel_39 : decode cX6_writePixel 39 = .ok (.sipush 255, 3) := by decide +kernel
theorem dX6_writePixel_42 : decode cX6_writePixel 42 = .ok (.invokevirtual 117, 3) := by decide +kernel
theorem dX6_writePixel_45 : decode cX6_writePixel 45 = .ok (.aload_n 2, 1) := by decide +kernel
theorem dX6_writePixel_46 : decode cX6_writePixel 46 = .ok (.iload_n 1, 1) := by decide +kernel
theorem dX6_writePixel_47 : decode cX6_writePixel 47 = .ok (.invokevirtual 125, 3) := by decide +kernel
theorem dX6_writePixel_50 : decode cX6_writePixel 50 = .ok (.goto 43, 3) := by decide +kernel
theorem dX6_writePixel_53 : decode cX6_writePixel 53 = .ok (.aload_n 0, 1) := by decide +kernel
theorem dX6_writePixel_54 : decode cX6_writePixel 54 = .ok (.iload_n 1, 1) := by decide +kernel
theorem dX6_writePixel_55 : decode cX6_writePixel 55 = .ok (.aload_n 2, 1) := by decide +kernel
theorem dX6_writePixel_56 : decode cX6_writePixel 56 = .ok (.invokevirtual 162, 3) := by decide +kernel
theorem dX6_writePixel_59 : decode cX6_writePixel 59 = .ok (.ifCond .ne 34, 3) := by decide +kernel
theorem dX6_writePixel_62 : decode cX6_writePixel 62 = .ok (.aload_n 2, 1) := by decide +kernel
theorem dX6_writePixel_63 : decode cX6_writePixel 63 = .ok (.sipush 254, 3) := by decide +kernel
theorem dX6_writePixel_66 : decode cX6_writePixel 66 = .ok (.invokevirtual 117, 3) := by decide +kernel
theorem dX6_writePixel_69 : decode cX6_writePixel 69 = .ok (.aload_n 2, 1) := by decide +kernel
theorem dX6_writePixel_70 : decode cX6_writePixel 70 = .ok (.iload_n 1, 1) := by decide +kernel
theorem dX6_writePixel_71 : decode cX6_writePixel 71 = .ok (.invokestatic 99, 3) := by decide +kernel
theorem dX6_writePixel_74 : decode cX6_writePixel 74 = .ok (.invokevirtual 117, 3) := by decide +kernel
theorem dX6_writePixel_77 : decode cX6_writePixel 77 = .ok (.aload_n 2, 1) := by decide +kernel
theorem dX6_writePixel_78 : decode cX6_writePixel 78 = .ok (.iload_n 1, 1) := by decide +kernel
theorem dX6_writePixel_79 : decode cX6_writePixel 79 = .ok (.invokestatic 102, 3) := by decide +kernel
theorem dX6_writePixel_82 : decode cX6_writePixel 82 = .ok (.invokevirtual 117, 3) := by decide +kernel
theorem dX6_writePixel_85 : decode cX6_writePixel 85 = .ok (.aload_n 2, 1) := by decide +kernel
theorem dX6_writePixel_86 : decode cX6_writePixel 86 = .ok (.iload_n 1, 1) := by decide +kernel
theorem dX6_writePixel_87 : decode cX6_writePixel 87 = .ok (.invokestatic 105, 3) := by decide +kernel
theorem dX6_writePixel_90 : decode cX6_writePixel 90 = .ok (.invokevirtual 117, 3) := by decide +kernel
theorem dX6_writePixel_93 : decode cX6_writePixel 93 = .ok (.return_, 1) := by decide +kernel
theorem dX6_writeMove_0 : decode cX6_writeMove 0 = .ok (.iload_n 1, 1) := by decide +kernel
theorem dX6_writeMove_1 : decode cX6_writeMove 1 = .ok (.invokestatic 99, 3) := by decide +kernel
theorem dX6_writeMove_4 : decode cX6_writeMove 4 = .ok (.aload_n 0, 1) := by decide +kernel
theorem dX6_writeMove_5 : decode cX6_writeMove 5 = .ok (.getfield 78, 3) := by decide +kernel
theorem dX6_writeMove_8 : decode cX6_writeMove 8 = .ok (.invokestatic 99, 3) := by decide +kernel
theorem dX6_writeMove_11 : decode cX6_writeMove 11 = .ok (.isub, 1) := by decide +kernel
theorem dX6_writeMove_12 : decode cX6_writeMove 12 = .ok (.i2b, 1) := by decide +kernel
theorem dX6_writeMove_13 : decode cX6_writeMove 13 = .ok (.istore_n 3, 1) := by decide +kernel
theorem dX6_writeMove_14 : decode cX6_writeMove 14 = .ok (.iload_n 1, 1) := by decide +kernel
theorem dX6_writeMove_15 : decode cX6_writeMove 15 = .ok (.invokestatic 102, 3) := by decide +kernel
theorem dX6_writeMove_18 : decode cX6_writeMove 18 = .ok (.aload_n 0, 1) := by decide +kernel
theorem dX6_writeMove_19 : decode cX6_writeMove 19 = .ok (.getfield 78, 3) := by decide +kernel
theorem dX6_writeMove_22 : decode cX6_writeMove 22 = .ok (.invokestatic 102, 3) := by decide +kernel
theorem dX6_writeMove_25 : decode cX6_writeMove 25 = .ok (.isub, 1) := by decide +kernel
theorem dX6_writeMove_26 : decode cX6_writeMove 26 = .ok (.i2b, 1) := by decide +kernel
theorem dX6_writeMove_27 : decode cX6_writeMove 27 = .ok (.istore 4, 2) := by decide +kernel
theorem dX6_writeMove_29 : decode cX6_writeMove 29 = .ok (.iload_n 1, 1) := by decide +kernel
theorem dX6_writeMove_30 : decode cX6_writeMove 30 = .ok (.invokestatic 105, 3) := by decide +kernel
theorem dX6_writeMove_33 : decode cX6_writeMove 33 = .ok (.aload_n 0, 1) := by decide +kernel
theorem dX6_writeMove_34 : decode cX6_writeMove 34 = .ok (.getfield 78, 3) := by decide +kernel
theorem dX6_writeMove_37 : decode cX6_writeMove 37 = .ok (.invokestatic 105, 3) := by decide +kernel
theorem dX6_writeMove_40 : decode cX6_writeMove 40 = .ok (.isub, 1) := by decide +kernel
theorem dX6_writeMove_41 : decode cX6_writeMove 41 = .ok (.i2b, 1) := by decide +kernel
theorem dX6_writeMove_42 : decode cX6_writeMove 42 = .ok (.istore 5, 2) := by decide +kernel
theorem dX6_writeMove_44 : decode cX6_writeMove 44 = .ok (.iload_n 3, 1) := by decide +kernel
theorem dX6_writeMove_45 : decode cX6_writeMove 45 = .ok (.iconst 2, 1) := by decide +kernel
theorem dX6_writeMove_46 : decode cX6_writeMove 46 = .ok (.invokestatic 166, 3) := by decide +kernel
theorem dX6_writeMove_49 : decode cX6_writeMove 49 = .ok (.ifCond .eq 47, 3) := by decide +kernel
theorem dX6_writeMove_52 : decode cX6_writeMove 52 = .ok (.iload 4, 2) := by decide +kernel
theorem dX6_writeMove_54 : decode cX6_writeMove 54 = .ok (.iconst 2, 1) := by decide +kernel
theorem dX6_writeMove_55 : decode cX6_writeMove 55 = .ok (.invokestatic 166, 3) := by decide +kernel
theorem dX6_writeMove_58 : decode cX6_writeMove 58 = .ok (.ifCond .eq 38, 3) := by decide +kernel
theorem dX6_writeMove_61 : decode cX6_writeMove 61 = .ok (.iload 5, 2) := by decide +kernel
theorem dX6_writeMove_63 : decode cX6_writeMove 63 = .ok (.iconst 2, 1) := by decide +kernel
theorem dX6_writeMove_64 : decode cX6_writeMove 64 = .ok (.invokestatic 166, 3) := by decide +kernel
theorem dX6_writeMove_67 : decode cX6_writeMove 67 = .ok (.ifCond .eq 29, 3) := by decide +kernel
theorem dX6_writeMove_70 : decode cX6_writeMove 70 = .ok (.aload_n 2, 1) := by decide +kernel
theorem dX6_writeMove_71 : decode cX6_writeMove 71 = .ok (.bipush 64, 2) := by decide +kernel
theorem dX6_writeMove_73 : decode cX6_writeMove 73 = .ok (.iload_n 3, 1) := by decide +kernel
theorem dX6_writeMove_74 : decode cX6_writeMove 74 = .ok (.iconst 2, 1) := by decide +kernel
theorem dX6_writeMove_75 : decode cX6_writeMove 75 = .ok (.iadd, 1) := by decide +kernel
theorem dX6_writeMove_76 : decode cX6_writeMove 76 = .ok (.iconst 4, 1) := by decide +kernel
theorem dX6_writeMove_77 : decode cX6_writeMove 77 = .ok (.ishl, 1) := by decide +kernel
theorem dX6_writeMove_78 : decode cX6_writeMove 78 = .ok (.ior, 1) := by decide +kernel
theorem dX6_writeMove_79 : decode cX6_writeMove 79 = .ok (.iload 4, 2) := by decide +kernel
theorem dX6_writeMove_81 : decode cX6_writeMove 81 = .ok (.iconst 2, 1) := by decide +kernel
theorem dX6_writeMove_82 : decode cX6_writeMove 82 = .ok (.iadd, 1) := by decide +kernel
theorem dX6_writeMove_83 : decode cX6_writeMove 83 = .ok (.iconst 2, 1) := by decide +kernel
theorem dX6_writeMove_84 : decode cX6_writeMove 84 = .ok (.ishl, 1) := by decide +kernel
theorem dX6_writeMove_85 : decode cX6_writeMove 85 = .ok (.ior, 1) := by decide +kernel
theorem dX6_writeMove_86 : decode cX6_writeMove 86 = .ok (.iload 5, 2) := by decide +kernel
theorem dX6_writeMove_88 : decode cX6_writeMove 88 = .ok (.iconst 2, 1) := by decide +kernel
theorem dX6_writeMove_89 : decode cX6_writeMove 89 = .ok (.iadd, 1) := by decide +kernel
theorem dX6_writeMove_90 : decode cX6_writeMove 90 = .ok (.ior, 1) := by decide +kernel
theorem dX6_writeMove_91 : decode cX6_writeMove 91 = .ok (.invokevirtual 117, 3) := by decide +kernel
theorem dX6_writeMove_94 : decode cX6_writeMove 94 = .ok (.iconst 1, 1) := by decide +kernel
theorem dX6_writeMove_95 : decode cX6_writeMove 95 = .ok (.ireturn, 1) := by decide +kernel
theorem dX6_writeMove_96 : decode cX6_writeMove 96 = .ok (.iload_n 3, 1) := by decide +kernel
theorem dX6_writeMove_97 : decode cX6_writeMove 97 = .ok (.iload 4, 2) := by decide +kernel
theorem dX6_writeMove_99 : decode cX6_writeMove 99 = .ok (.isub, 1) := by decide +kernel
theorem dX6_writeMove_100 : decode cX6_writeMove 100 = .ok (.i2b, 1) := by decide +kernel
theorem dX6_writeMove_101 : decode cX6_writeMove 101 = .ok (.istore 6, 2) := by decide +kernel
theorem dX6_writeMove_103 : decode cX6_writeMove 103 = .ok (.iload 5, 2) := by decide +kernel
theorem dX6_writeMove_105 : decode cX6_writeMove 105 = .ok (.iload 4, 2) := by decide +kernel
theorem dX6_writeMove_107 : decode cX6_writeMove 107 = .ok (.isub, 1) := by decide +kernel
theorem dX6_writeMove_108 : decode cX6_writeMove 108 = .ok (.i2b, 1) := by decide +kernel
theorem dX6_writeMove_109 : decode cX6_writeMove 109 = .ok (.istore 7, 2) := by decide +kernel
theorem dX6_writeMove_111 : decode cX6_writeMove 111 = .ok (.iload 4, 2) := by decide +kernel
theorem dX6_writeMove_113 : decode cX6_writeMove 113 = .ok (.bipush 32, 2) := by decide +kernel
theorem dX6_writeMove_115 : decode cX6_writeMove 115 = .ok (.invokestatic 166, 3) := by decide +kernel
theorem dX6_writeMove_118 : decode cX6_writeMove 118 = .ok (.ifCond .eq 55, 3) := by decide +kernel
theorem dX6_writeMove_121 : decode cX6_writeMove 121 = .ok (.iload 6, 2) := by decide +kernel
theorem dX6_writeMove_123 : decode cX6_writeMove 123 = .ok (.bipush 8, 2) := by decide +kernel
theorem dX6_writeMove_125 : decode cX6_writeMove 125 = .ok (.invokestatic 166, 3) := by decide +kernel
theorem dX6_writeMove_128 : decode cX6_writeMove 128 = .ok (.ifCond .eq 45, 3) := by decide +kernel
theorem dX6_writeMove_131 : decode cX6_writeMove 131 = .ok (.iload 7, 2) := by decide +kernel
theorem dX6_writeMove_133 : decode cX6_writeMove 133 = .ok (.bipush 8, 2) := by decide +kernel
theorem dX6_writeMove_135 : decode cX6_writeMove 135 = .ok (.invokestatic 166, 3) := by decide +kernel
theorem dX6_writeMove_138 : decode cX6_writeMove 138 = .ok (.ifCond .eq 35, 3) := by decide +kernel
theorem dX6_writeMove_141 : decode cX6_writeMove 141 = .ok (.aload_n 2, 1) := by decide +kernel
theorem dX6_writeMove_142 : decode cX6_writeMove 142 = .ok (.sipush 128, 3) := by decide +kernel
theorem dX6_writeMove_145 : decode cX6_writeMove 145 = .ok (.iload 4, 2) := by decide +kernel
theorem dX6_writeMove_147 : decode cX6_writeMove 147 = .ok (.bipush 32, 2) := by decide +kernel
theorem dX6_writeMove_149 : decode cX6_writeMove 149 = .ok (.iadd, 1) := by decide +kernel
theorem dX6_writeMove_150 : decode cX6_writeMove 150 = .ok (.ior, 1) := by decide +kernel
theorem dX6_writeMove_151 : decode cX6_writeMove 151 = .ok (.invokevirtual 117, 3) := by decide +kernel
theorem dX6_writeMove_154 : decode cX6_writeMove 154 = .ok (.aload_n 2, 1) := by decide +kernel
theorem dX6_writeMove_155 : decode cX6_writeMove 155 = .ok (.iload 6, 2) := by decide +kernel
theorem dX6_writeMove_157 : decode cX6_writeMove 157 = .ok (.bipush 8, 2) := by decide +kernel
theorem dX6_writeMove_159 : decode cX6_writeMove 159 = .ok (.iadd, 1) := by decide +kernel
theorem dX6_writeMove_160 : decode cX6_writeMove 160 = .ok (.iconst 4, 1) := by decide +kernel
theorem dX6_writeMove_161 : decode cX6_writeMove 161 = .ok (.ishl, 1) := by decide +kernel
theorem dX6_writeMove_162 : decode cX6_writeMove 162 = .ok (.iload 7, 2) := by decide +kernel
theorem dX6_writeMove_164 : decode cX6_writeMove 164 = .ok (.bipush 8, 2) := by decide +kernel
theorem dX6_writeMove_166 : decode cX6_writeMove 166 = .ok (.iadd, 1) := by decide +kernel
theorem dX6_writeMove_167 : decode cX6_writeMove 167 = .ok (.ior, 1) := by decide +kernel
theorem dX6_writeMove_168 : decode cX6_writeMove 168 = .ok (.invokevirtual 117, 3) := by decide +kernel
theorem dX6_writeMove_171 : decode cX6_writeMove 171 = .ok (.iconst 1, 1) := by decide +kernel
theorem dX6_writeMove_172 : decode cX6_writeMove 172 = .ok (.ireturn, 1) := by decide +kernel
theorem dX6_writeMove_173 : decode cX6_writeMove 173 = .ok (.iconst 0, 1) := by decide +kernel
theorem dX6_writeMove_174 : decode cX6_writeMove 174 = .ok (.ireturn, 1) := by decide +kernel
theorem dX6_isWithin_0 : decode cX6_isWithin 0 = .ok (.iload_n 0, 1) := by decide +kernel
theorem dX6_isWithin_1 : decode cX6_isWithin 1 = .ok (.iload_n 1, 1) := by decide +kernel
theorem dX6_isWithin_2 : decode cX6_isWithin 2 = .ok (.ineg, 1) := by decide +kernel
theorem dX6_isWithin_3 : decode cX6_isWithin 3 = .ok (.if_icmp .lt 12, 3) := by decide +kernel
theorem dX6_isWithin_6 : decode cX6_isWithin 6 = .ok (.iload_n 0, 1) := by decide +kernel
theorem dX6_isWithin_7 : decode cX6_isWithin 7 = .ok (.iload_n 1, 1) := by decide +kernel
theorem dX6_isWithin_8 : decode cX6_isWithin 8 = .ok (.if_icmp .ge 7, 3) := by decide +kernel
theorem dX6_isWithin_11 : decode cX6_isWithin 11 = .ok (.iconst 1, 1) := by decide +kernel
theorem dX6_isWithin_12 : decode cX6_isWithin 12 = .ok (.goto 4, 3) := by decide +kernel
theorem dX6_isWithin_15 : decode cX6_isWithin 15 = .ok (.iconst 0, 1) := by decide +kernel
theorem dX6_isWithin_16 : decode cX6_isWithin 16 = .ok (.ireturn, 1) := by decide +kernel
