theorem dX5_init_0 : decode cX5_init 0 = .ok (.aload_n 0, 1) := by decide +kernel
theorem dX5_init_1 : decode cX5_init 1 = .ok (.invokespecial 3, 3) := by decide +kernel
theorem dX5_init_4 : decode cX5_init 4 = .ok (.return_, 1) := by decide +kernel
theorem dX5_decode_0 : decode cX5_decode 0 = .ok (.aload_n 1, 1) := by decide +kernel
theorem dX5_decode_1 : decode cX5_decode 1 = .ok (.bipush 80, 2) := by decide +kernel
theorem dX5_decode_3 : decode cX5_decode 3 = .ok (.invokevirtual 9, 3) := by decide +kernel
theorem dX5_decode_6 : decode cX5_decode 6 = .ok (.aload_n 0, 1) := by decide +kernel
theorem dX5_decode_7 : decode cX5_decode 7 = .ok (.aload_n 1, 1) := by decide +kernel
theorem dX5_decode_8 : decode cX5_decode 8 = .ok (.invokevirtual 15, 3) := by decide +kernel
theorem dX5_decode_11 : decode cX5_decode 11 = .ok (.aload_n 0, 1) := by decide +kernel
theorem dX5_decode_12 : decode cX5_decode 12 = .ok (.aload_n 1, 1) := by decide +kernel
theorem dX5_decode_13 : decode cX5_decode 13 = .ok (.aload_n 2, 1) := by decide +kernel
theorem dX5_decode_14 : decode cX5_decode 14 = .ok (.invokevirtual 21, 3) := by decide +kernel
theorem dX5_decode_17 : decode cX5_decode 17 = .ok (.aload_n 0, 1) := by decide +kernel
theorem dX5_decode_18 : decode cX5_decode 18 = .ok (.iconst 1, 1) := by decide +kernel
theorem dX5_decode_19 : decode cX5_decode 19 = .ok (.putfield 25, 3) := by decide +kernel
theorem dX5_decode_22 : decode cX5_decode 22 = .ok (.aload_n 0, 1) := by decide +kernel
theorem dX5_decode_23 : decode cX5_decode 23 = .ok (.getfield 29, 3) := by decide +kernel
theorem dX5_decode_26 : decode cX5_decode 26 = .ok (.iconst 1, 1) := by decide +kernel
theorem dX5_decode_27 : decode cX5_decode 27 = .ok (.if_icmp .eq 35, 3) := by decide +kernel
theorem dX5_decode_30 : decode cX5_decode 30 = .ok (.aload_n 0, 1) := by decide +kernel
theorem dX5_decode_31 : decode cX5_decode 31 = .ok (.getfield 29, 3) := by decide +kernel
theorem dX5_decode_34 : decode cX5_decode 34 = .ok (.iconst 4, 1) := by decide +kernel
theorem dX5_decode_35 : decode cX5_decode 35 = .ok (.if_icmp .eq 27, 3) := by decide +kernel
theorem dX5_decode_38 : decode cX5_decode 38 = .ok (.aload_n 1, 1) := by decide +kernel
theorem dX5_decode_39 : decode cX5_decode 39 = .ok (.invokestatic 32, 3) := by decide +kernel
theorem dX5_decode_42 : decode cX5_decode 42 = .ok (.aload_n 0, 1) := by decide +kernel
theorem dX5_decode_43 : decode cX5_decode 43 = .ok (.aload_n 0, 1) := by decide +kernel
theorem dX5_decode_44 : decode cX5_decode 44 = .ok (.aload_n 1, 1) := by decide +kernel
theorem dX5_decode_45 : decode cX5_decode 45 = .ok (.invokevirtual 35, 3) := by decide +kernel
theorem dX5_decode_48 : decode cX5_decode 48 = .ok (.putfield 25, 3) := by decide +kernel
theorem dX5_decode_51 : decode cX5_decode 51 = .ok (.aload_n 0, 1) := by decide +kernel
theorem dX5_decode_52 : decode cX5_decode 52 = .ok (.aload_n 1, 1) := by decide +kernel
theorem dX5_decode_53 : decode cX5_decode 53 = .ok (.aload_n 0, 1) := by decide +kernel
theorem dX5_decode_54 : decode cX5_decode 54 = .ok (.getfield 25, 3) := by decide +kernel
theorem dX5_decode_57 : decode cX5_decode 57 = .ok (.ldc 39, 2) := by decide +kernel
theorem dX5_decode_59 : decode cX5_decode 59 = .ok (.invokevirtual 40, 3) := by decide +kernel
theorem dX5_decode_62 : decode cX5_decode 62 = .ok (.aload_n 0, 1) := by decide +kernel
theorem dX5_decode_63 : decode cX5_decode 63 = .ok (.getfield 29, 3) := by decide +kernel
theorem dX5_decode_66 : decode cX5_decode 66 = .ok (.iconst 3, 1) := by decide +kernel
theorem dX5_decode_67 : decode cX5_decode 67 = .ok (.if_icmp .le 7, 3) := by decide +kernel
theorem dX5_decode_70 : decode cX5_decode 70 = .ok (.aload_n 1, 1) := by decide +kernel
theorem dX5_decode_71 : decode cX5_decode 71 = .ok (.invokestatic 44, 3) := by decide +kernel
theorem dX5_decode_74 : decode cX5_decode 74 = .ok (.aload_n 0, 1) := by decide +kernel
theorem dX5_decode_75 : decode cX5_decode 75 = .ok (.aload_n 1, 1) := by decide +kernel
theorem dX5_decode_76 : decode cX5_decode 76 = .ok (.getfield 47, 3) := by decide +kernel
theorem dX5_decode_79 : decode cX5_decode 79 = .ok (.putfield 50, 3) := by decide +kernel
theorem dX5_decode_82 : decode cX5_decode 82 = .ok (.aload_n 0, 1) := by decide +kernel
theorem dX5_decode_83 : decode cX5_decode 83 = .ok (.getfield 29, 3) := by decide +kernel
theorem dX5_decode_86 : decode cX5_decode 86 = .ok (.iconst 1, 1) := by decide +kernel
theorem dX5_decode_87 : decode cX5_decode 87 = .ok (.if_icmp .ne 11, 3) := by decide +kernel
theorem dX5_decode_90 : decode cX5_decode 90 = .ok (.aload_n 1, 1) := by decide +kernel
theorem dX5_decode_91 : decode cX5_decode 91 = .ok (.aload_n 2, 1) := by decide +kernel
theorem dX5_decode_92 : decode cX5_decode 92 = .ok (.invokestatic 53, 3) := by decide +kernel
theorem dX5_decode_95 : decode cX5_decode 95 = .ok (.goto 25, 3) := by decide +kernel
theorem dX5_decode_98 : decode cX5_decode 98 = .ok (.aload_n 0, 1) := by decide +kernel
theorem dX5_decode_99 : decode cX5_decode 99 = .ok (.getfield 29, 3) := by decide +kernel
theorem dX5_decode_102 : decode cX5_decode 102 = .ok (.iconst 4, 1) := by decide +kernel
theorem dX5_decode_103 : decode cX5_decode 103 = .ok (.if_icmp .ne 11, 3) := by decide +kernel
theorem dX5_decode_106 : decode cX5_decode 106 = .ok (.aload_n 1, 1) := by decide +kernel
theorem dX5_decode_107 : decode cX5_decode 107 = .ok (.aload_n 2, 1) := by decide +kernel
theorem dX5_decode_108 : decode cX5_decode 108 = .ok (.invokestatic 56, 3) := by decide +kernel
theorem dX5_decode_111 : decode cX5_decode 111 = .ok (.goto 9, 3) := by decide +kernel
theorem dX5_decode_114 : decode cX5_decode 114 = .ok (.aload_n 0, 1) := by decide +kernel
theorem dX5_decode_115 : decode cX5_decode 115 = .ok (.aload_n 1, 1) := by decide +kernel
theorem dX5_decode_116 : decode cX5_decode 116 = .ok (.aload_n 2, 1) := by decide +kernel
theorem dX5_decode_117 : decode cX5_decode 117 = .ok (.invokevirtual 59, 3) := by decide +kernel
theorem dX5_decode_120 : decode cX5_decode 120 = .ok (.aload_n 0, 1) := by decide +kernel
theorem dX5_decode_121 : decode cX5_decode 121 = .ok (.getfield 29, 3) := by decide +kernel
theorem dX5_decode_124 : decode cX5_decode 124 = .ok (.iconst 3, 1) := by decide +kernel
theorem dX5_decode_125 : decode cX5_decode 125 = .ok (.if_icmp .gt 7, 3) := by decide +kernel
theorem dX5_decode_128 : decode cX5_decode 128 = .ok (.aload_n 1, 1) := by decide +kernel
theorem dX5_decode_129 : decode cX5_decode 129 = .ok (.invokestatic 62, 3) := by decide +kernel
theorem dX5_decode_132 : decode cX5_decode 132 = .ok (.aload_n 1, 1) := by decide +kernel
theorem dX5_decode_133 : decode cX5_decode 133 = .ok (.invokevirtual 65, 3) := by decide +kernel
theorem dX5_decode_136 : decode cX5_decode 136 = .ok (.return_, 1) := by decide +kernel
theorem dX5_readKind_0 : decode cX5_readKind 0 = .ok (.aload_n 1, 1) := by decide +kernel
theorem dX5_readKind_1 : decode cX5_readKind 1 = .ok (.getfield 47, 3) := by decide +kernel
theorem dX5_readKind_4 : decode cX5_readKind 4 = .ok (.istore_n 2, 1) := by decide +kernel
theorem dX5_readKind_5 : decode cX5_readKind 5 = .ok (.aload_n 0, 1) := by decide +kernel
theorem dX5_readKind_6 : decode cX5_readKind 6 = .ok (.aload_n 1, 1) := by decide +kernel
theorem dX5_readKind_7 : decode cX5_readKind 7 = .ok (.invokevirtual 68, 3) := by decide +kernel
theorem dX5_readKind_10 : decode cX5_readKind 10 = .ok (.bipush 48, 2) := by decide +kernel
theorem dX5_readKind_12 : decode cX5_readKind 12 = .ok (.isub, 1) := by decide +kernel
theorem dX5_readKind_13 : decode cX5_readKind 13 = .ok (.putfield 29, 3) := by decide +kernel
theorem dX5_readKind_16 : decode cX5_readKind 16 = .ok (.aload_n 0, 1) := by decide +kernel
theorem dX5_readKind_17 : decode cX5_readKind 17 = .ok (.getfield 29, 3) := by decide +kernel
theorem dX5_readKind_20 : decode cX5_readKind 20 = .ok (.iconst 1, 1) := by decide +kernel
theorem dX5_readKind_21 : decode cX5_readKind 21 = .ok (.if_icmp .lt 12, 3) := by decide +kernel
theorem dX5_readKind_24 : decode cX5_readKind 24 = .ok (.aload_n 0, 1) := by decide +kernel
theorem dX5_readKind_25 : decode cX5_readKind 25 = .ok (.getfield 29, 3) := by decide +kernel
theorem dX5_readKind_28 : decode cX5_readKind 28 = .ok (.bipush 6, 2) := by decide +kernel
theorem dX5_readKind_30 : decode cX5_readKind 30 = .ok (.if_icmp .le 9, 3) := by decide +kernel
theorem dX5_readKind_33 : decode cX5_readKind 33 = .ok (.aload_n 1, 1) := by decide +kernel
theorem dX5_readKind_34 : decode cX5_readKind 34 = .ok (.iconst 2, 1) := by decide +kernel
theorem dX5_readKind_35 : decode cX5_readKind 35 = .ok (.iload_n 2, 1) := by decide +kernel
theorem dX5_readKind_36 : decode cX5_readKind 36 = .ok (.invokevirtual 72, 3) := by decide +kernel
theorem dX5_readKind_39 : decode cX5_readKind 39 = .ok (.return_, 1) := by decide +kernel
theorem dX5_readSize_0 : decode cX5_readSize 0 = .ok (.aload_n 1, 1) := by decide +kernel
theorem dX5_readSize_1 : decode cX5_readSize 1 = .ok (.invokestatic 32, 3) := by decide +kernel
theorem dX5_readSize_4 : decode cX5_readSize 4 = .ok (.aload_n 0, 1) := by decide +kernel
theorem dX5_readSize_5 : decode cX5_readSize 5 = .ok (.aload_n 1, 1) := by decide +kernel
theorem dX5_readSize_6 : decode cX5_readSize 6 = .ok (.invokevirtual 35, 3) := by decide +kernel
theorem dX5_readSize_9 : decode cX5_readSize 9 = .ok (.istore_n 3, 1) := by decide +kernel
theorem dX5_readSize_10 : decode cX5_readSize 10 = .ok (.aload_n 0, 1) := by decide +kernel
theorem dX5_readSize_11 : decode cX5_readSize 11 = .ok (.aload_n 1, 1) := by decide +kernel
theorem dX5_readSize_12 : decode cX5_readSize 12 = .ok (.iload_n 3, 1) := by decide +kernel
theorem dX5_readSize_13 : decode cX5_readSize 13 = .ok (.ldc 76, 2) := by decide +kernel
theorem dX5_readSize_15 : decode cX5_readSize 15 = .ok (.invokevirtual 40, 3) := by decide +kernel
theorem dX5_readSize_18 : decode cX5_readSize 18 = .ok (.iload_n 3, 1) := by decide +kernel
theorem dX5_readSize_19 : decode cX5_readSize 19 = .ok (.sipush 4096, 3) := by decide +kernel
theorem dX5_readSize_22 : decode cX5_readSize 22 = .ok (.if_icmp .le 12, 3) := by decide +kernel
theorem dX5_readSize_25 : decode cX5_readSize 25 = .ok (.aload_n 1, 1) := by decide +kernel
theorem dX5_readSize_26 : decode cX5_readSize 26 = .ok (.iconst 3, 1) := by decide +kernel
theorem dX5_readSize_27 : decode cX5_readSize 27 = .ok (.aload_n 0, 1) := by decide +kernel
theorem dX5_readSize_28 : decode cX5_readSize 28 = .ok (.getfield 77, 3) := by decide +kernel
theorem dX5_readSize_31 : decode cX5_readSize 31 = .ok (.invokevirtual 72, 3) := by decide +kernel
theorem dX5_readSize_34 : decode cX5_readSize 34 = .ok (.aload_n 1, 1) := by decide +kernel
theorem dX5_readSize_35 : decode cX5_readSize 35 = .ok (.invokestatic 32, 3) := by decide +kernel
theorem dX5_readSize_38 : decode cX5_readSize 38 = .ok (.aload_n 0, 1) := by decide +kernel
theorem dX5_readSize_39 : decode cX5_readSize 39 = .ok (.aload_n 1, 1) := by decide +kernel
theorem dX5_readSize_40 : decode cX5_readSize 40 = .ok (.invokevirtual 35, 3) := by decide +kernel
theorem dX5_readSize_43 : decode cX5_readSize 43 = .ok (.istore 4, 2) := by decide +kernel
theorem dX5_readSize_45 : decode cX5_readSize 45 = .ok (.aload_n 0, 1) := by decide +kernel
theorem dX5_readSize_46 : decode cX5_readSize 46 = .ok (.aload_n 1, 1) := by decide +kernel
theorem dX5_readSize_47 : decode cX5_readSize 47 = .ok (.iload 4, 2) := by decide +kernel
theorem dX5_readSize_49 : decode cX5_readSize 49 = .ok (.ldc 76, 2) := by decide +kernel
theorem dX5_readSize_51 : decode cX5_readSize 51 = .ok (.invokevirtual 40, 3) := by decide +kernel
theorem dX5_readSize_54 : decode cX5_readSize 54 = .ok (.aload_n 1, 1) := by decide +kernel
theorem dX5_readSize_55 : decode cX5_readSize 55 = .ok (.aload_n 2, 1) := by decide +kernel
theorem dX5_readSize_56 : decode cX5_readSize 56 = .ok (.iload_n 3, 1) := by decide +kernel
theorem dX5_readSize_57 : decode cX5_readSize 57 = .ok (.i2l, 1) := by decide +kernel
theorem dX5_readSize_58 : decode cX5_readSize 58 = .ok (.iload 4, 2) := by decide +kernel
theorem dX5_readSize_60 : decode cX5_readSize 60 = .ok (.i2l, 1) := by decide +kernel
theorem dX5_readSize_61 : decode cX5_readSize 61 = .ok (.aload_n 0, 1) := by decide +kernel
theorem dX5_readSize_62 : decode cX5_readSize 62 = .ok (.getfield 77, 3) := by decide +kernel
theorem dX5_readSize_65 : decode cX5_readSize 65 = .ok (.invokevirtual 80, 3) := by decide +kernel
theorem dX5_readSize_68 : decode cX5_readSize 68 = .ok (.return_, 1) := by decide +kernel
theorem dX5_askNumber_0 : decode cX5_askNumber 0 = .ok (.iload_n 2, 1) := by decide +kernel
theorem dX5_askNumber_1 : decode cX5_askNumber 1 = .ok (.iconst 1, 1) := by decide +kernel
theorem dX5_askNumber_2 : decode cX5_askNumber 2 = .ok (.if_icmp .lt 8, 3) := by decide +kernel
theorem dX5_askNumber_5 : decode cX5_askNumber 5 = .ok (.iload_n 2, 1) := by decide +kernel
theorem dX5_askNumber_6 : decode cX5_askNumber 6 = .ok (.iload_n 3, 1) := by decide +kernel
theorem dX5_askNumber_7 : decode cX5_askNumber 7 = .ok (.if_icmp .le 12, 3) := by decide +kernel
theorem dX5_askNumber_10 : decode cX5_askNumber 10 = .ok (.aload_n 1, 1) := by decide +kernel
theorem dX5_askNumber_11 : decode cX5_askNumber 11 = .ok (.iconst 2, 1) := by decide +kernel
theorem dX5_askNumber_12 : decode cX5_askNumber 12 = .ok (.aload_n 0, 1) := by decide +kernel
theorem dX5_askNumber_13 : decode cX5_askNumber 13 = .ok (.getfield 77, 3) := by decide +kernel
theorem dX5_askNumber_16 : decode cX5_askNumber 16 = .ok (.invokevirtual 72, 3) := by decide +kernel
theorem dX5_askNumber_19 : decode cX5_askNumber 19 = .ok (.return_, 1) := by decide +kernel
theorem dX5_isBlank_0 : decode cX5_isBlank 0 = .ok (.iload_n 0, 1) := by decide +kernel
theorem dX5_isBlank_1 : decode cX5_isBlank 1 = .ok (.bipush 9, 2) := by decide +kernel
theorem dX5_isBlank_3 : decode cX5_isBlank 3 = .ok (.if_icmp .lt 9, 3) := by decide +kernel
theorem dX5_isBlank_6 : decode cX5_isBlank 6 = .ok (.iload_n 0, 1) := by decide +kernel
theorem dX5_isBlank_7 : decode cX5_isBlank 7 = .ok (.bipush 13, 2) := by decide +kernel
theorem dX5_isBlank_9 : decode cX5_isBlank 9 = .ok (.if_icmp .le 9, 3) := by decide +kernel
theorem dX5_isBlank_12 : decode cX5_isBlank 12 = .ok (.iload_n 0, 1) := by decide +kernel
theorem dX5_isBlank_13 : decode cX5_isBlank 13 = .ok (.bipush 32, 2) := by decide +kernel
theorem dX5_isBlank_15 : decode cX5_isBlank 15 = .ok (.if_icmp .ne 7, 3) := by decide +kernel
theorem dX5_isBlank_18 : decode cX5_isBlank 18 = .ok (.iconst 1, 1) := by decide +kernel
theorem dX5_isBlank_19 : decode cX5_isBlank 19 = .ok (.goto 4, 3) := by decide +kernel
theorem dX5_isBlank_22 : decode cX5_isBlank 22 = .ok (.iconst 0, 1) := by decide +kernel
theorem dX5_isBlank_23 : decode cX5_isBlank 23 = .ok (.ireturn, 1) := by decide +kernel
theorem dX5_isDigit_0 : decode cX5_isDigit 0 = .ok (.iload_n 0, 1) := by decide +kernel
theorem dX5_isDigit_1 : decode cX5_isDigit 1 = .ok (.bipush 48, 2) := by decide +kernel
theorem dX5_isDigit_3 : decode cX5_isDigit 3 = .ok (.if_icmp .lt 13, 3) := by decide +kernel
theorem dX5_isDigit_6 : decode cX5_isDigit 6 = .ok (.iload_n 0, 1) := by decide +kernel
theorem dX5_isDigit_7 : decode cX5_isDigit 7 = .ok (.bipush 57, 2) := by decide +kernel
theorem dX5_isDigit_9 : decode cX5_isDigit 9 = .ok (.if_icmp .gt 7, 3) := by decide +kernel
theorem dX5_isDigit_12 : decode cX5_isDigit 12 = .ok (.iconst 1, 1) := by decide +kernel
theorem dX5_isDigit_13 : decode cX5_isDigit 13 = .ok (.goto 4, 3) := by decide +kernel
theorem dX5_isDigit_16 : decode cX5_isDigit 16 = .ok (.iconst 0, 1) := by decide +kernel
theorem dX5_isDigit_17 : decode cX5_isDigit 17 = .ok (.ireturn, 1) := by decide +kernel
theorem dX5_readOneBlank_0 : decode cX5_readOneBlank 0 = .ok (.aload_n 0, 1) := by decide +kernel
theorem dX5_readOneBlank_1 : decode cX5_readOneBlank 1 = .ok (.getfield 47, 3) := by decide +kernel
theorem dX5_readOneBlank_4 : decode cX5_readOneBlank 4 = .ok (.istore_n 1, 1) := by decide +kernel
theorem dX5_readOneBlank_5 : decode cX5_readOneBlank 5 = .ok (.aload_n 0, 1) := by decide +kernel
theorem dX5_readOneBlank_6 : decode cX5_readOneBlank 6 = .ok (.invokevirtual 68, 3) := by decide +kernel
theorem dX5_readOneBlank_9 : decode cX5_readOneBlank 9 = .ok (.invokestatic 84, 3) := by decide +kernel
theorem dX5_readOneBlank_12 : decode cX5_readOneBlank 12 = .ok (.ifCond .ne 9, 3) := by decide +kernel
theorem dX5_readOneBlank_15 : decode cX5_readOneBlank 15 = .ok (.aload_n 0, 1) := by decide +kernel
theorem dX5_readOneBlank_16 : decode cX5_readOneBlank 16 = .ok (.iconst 2, 1) := by decide +kernel
theorem dX5_readOneBlank_17 : decode cX5_readOneBlank 17 = .ok (.iload_n 1, 1) := by decide +kernel
theorem dX5_readOneBlank_18 : decode cX5_readOneBlank 18 = .ok (.invokevirtual 72, 3) := by decide +kernel
theorem dX5_readOneBlank_21 : decode cX5_readOneBlank 21 = .ok (.return_, 1) := by decide +kernel
theorem dX5_passGap_0 : decode cX5_passGap 0 = .ok (.aload_n 0, 1) := by decide +kernel
theorem dX5_passGap_1 : decode cX5_passGap 1 = .ok (.invokevirtual 88, 3) := by decide +kernel
theorem dX5_passGap_4 : decode cX5_passGap 4 = .ok (.istore_n 1, 1) := by decide +kernel
theorem dX5_passGap_5 : decode cX5_passGap 5 = .ok (.iload_n 1, 1) := by decide +kernel
theorem dX5_passGap_6 : decode cX5_passGap 6 = .ok (.iconst (-1), 1) := by decide +kernel
theorem dX5_passGap_7 : decode cX5_passGap 7 = .ok (.if_icmp .ne 12, 3) := by decide +kernel
theorem dX5_passGap_10 : decode cX5_passGap 10 = .ok (.aload_n 0, 1) := by decide +kernel
theorem dX5_passGap_11 : decode cX5_passGap 11 = .ok (.iconst 1, 1) := by decide +kernel
theorem dX5_passGap_12 : decode cX5_passGap 12 = .ok (.aload_n 0, 1) := by decide +kernel
theorem dX5_passGap_13 : decode cX5_passGap 13 = .ok (.getfield 91, 3) := by decide +kernel
theorem dX5_passGap_16 : decode cX5_passGap 16 = .ok (.invokevirtual 72, 3) := by decide +kernel
theorem dX5_passGap_19 : decode cX5_passGap 19 = .ok (.iload_n 1, 1) := by decide +kernel
theorem dX5_passGap_20 : decode cX5_passGap 20 = .ok (.invokestatic 84, 3) := by decide +kernel
theorem dX5_passGap_23 : decode cX5_passGap 23 = .ok (.ifCond .ne 18, 3) := by decide +kernel
theorem dX5_passGap_26 : decode cX5_passGap 26 = .ok (.iload_n 1, 1) := by decide +kernel
theorem dX5_passGap_27 : decode cX5_passGap 27 = .ok (.bipush 35, 2) := by decide +kernel
theorem dX5_passGap_29 : decode cX5_passGap 29 = .ok (.if_icmp .eq 12, 3) := by decide +kernel
theorem dX5_passGap_32 : decode cX5_passGap 32 = .ok (.aload_n 0, 1) := by decide +kernel
theorem dX5_passGap_33 : decode cX5_passGap 33 = .ok (.iconst 2, 1) := by decide +kernel
theorem dX5_passGap_34 : decode cX5_passGap 34 = .ok (.aload_n 0, 1) := by decide +kernel
theorem dX5_passGap_35 : decode cX5_passGap 35 = .ok (.getfield 47, 3) := by decide +kernel
theorem dX5_passGap_38 : decode cX5_passGap 38 = .ok (.invokevirtual 72, 3) := by decide +kernel
theorem dX5_passGap_41 : decode cX5_passGap 41 = .ok (.aload_n 0, 1) := by decide +kernel
theorem dX5_passGap_42 : decode cX5_passGap 42 = .ok (.invokestatic 62, 3) := by decide +kernel
theorem dX5_passGap_45 : decode cX5_passGap 45 = .ok (.return_, 1) := by decide +kernel
theorem dX5_passBlanks_0 : decode cX5_passBlanks 0 = .ok (.iconst 0, 1) := by decide +kernel
theorem dX5_passBlanks_1 : decode cX5_passBlanks 1 = .ok (.istore_n 1, 1) := by decide +kernel
theorem dX5_passBlanks_2 : decode cX5_passBlanks 2 = .ok (.aload_n 0, 1) := by decide +kernel
theorem dX5_passBlanks_3 : decode cX5_passBlanks 3 = .ok (.getfield 47, 3) := by decide +kernel
theorem dX5_passBlanks_6 : decode cX5_passBlanks 6 = .ok (.aload_n 0, 1) := by decide +kernel
theorem dX5_passBlanks_7 : decode cX5_passBlanks 7 = .ok (.getfield 91, 3) := by decide +kernel
theorem dX5_passBlanks_10 : decode cX5_passBlanks 10 = .ok (.if_icmp .ge 59, 3) := by decide +kernel
theorem dX5_passBlanks_13 : decode cX5_passBlanks 13 = .ok (.aload_n 0, 1) := by decide +kernel
theorem dX5_passBlanks_14 : decode cX5_passBlanks 14 = .ok (.invokevirtual 88, 3) := by decide +kernel
theorem dX5_passBlanks_17 : decode cX5_passBlanks 17 = .ok (.istore_n 2, 1) := by decide +kernel
theorem dX5_passBlanks_18 : decode cX5_passBlanks 18 = .ok (.iload_n 1, 1) := by decide +kernel
theorem dX5_passBlanks_19 : decode cX5_passBlanks 19 = .ok (.ifCond .eq 18, 3) := by decide +kernel
theorem dX5_passBlanks_22 : decode cX5_passBlanks 22 = .ok (.iload_n 2, 1) := by decide +kernel
theorem dX5_passBlanks_23 : decode cX5_passBlanks 23 = .ok (.bipush 10, 2) := by decide +kernel
theorem dX5_passBlanks_25 : decode cX5_passBlanks 25 = .ok (.if_icmp .eq 7, 3) := by decide +kernel
theorem dX5_passBlanks_28 : decode cX5_passBlanks 28 = .ok (.iconst 1, 1) := by decide +kernel
theorem dX5_passBlanks_29 : decode cX5_passBlanks 29 = .ok (.goto 4, 3) := by decide +kernel
theorem dX5_passBlanks_32 : decode cX5_passBlanks 32 = .ok (.iconst 0, 1) := by decide +kernel
theorem dX5_passBlanks_33 : decode cX5_passBlanks 33 = .ok (.istore_n 1, 1) := by decide +kernel
theorem dX5_passBlanks_34 : decode cX5_passBlanks 34 = .ok (.goto 22, 3) := by decide +kernel
theorem dX5_passBlanks_37 : decode cX5_passBlanks 37 = .ok (.iload_n 2, 1) := by decide +kernel
theorem dX5_passBlanks_38 : decode cX5_passBlanks 38 = .ok (.bipush 35, 2) := by decide +kernel
theorem dX5_passBlanks_40 : decode cX5_passBlanks 40 = .ok (.if_icmp .ne 8, 3) := by decide +kernel
theorem dX5_passBlanks_43 : decode cX5_passBlanks 43 = .ok (.iconst 1, 1) := by decide +kernel
theorem dX5_passBlanks_44 : decode cX5_passBlanks 44 = .ok (.istore_n 1, 1) := by decide +kernel
theorem dX5_passBlanks_45 : decode cX5_passBlanks 45 = .ok (.goto 11, 3) := by decide +kernel
theorem dX5_passBlanks_48 : decode cX5_passBlanks 48 = .ok (.iload_n 2, 1) := by decide +kernel
theorem dX5_passBlanks_49 : decode cX5_passBlanks 49 = .ok (.invokestatic 84, 3) := by decide +kernel
theorem dX5_passBlanks_52 : decode cX5_passBlanks 52 = .ok (.ifCond .ne 4, 3) := by decide +kernel
theorem dX5_passBlanks_55 : decode cX5_passBlanks 55 = .ok (.return_, 1) := by decide +kernel
theorem dX5_passBlanks_56 : decode cX5_passBlanks 56 = .ok (.aload_n 0, 1) := by decide +kernel
theorem dX5_passBlanks_57 : decode cX5_passBlanks 57 = .ok (.dup, 1) := by decide +kernel
theorem dX5_passBlanks_58 : decode cX5_passBlanks 58 = .ok (.getfield 47, 3) := by decide +kernel
theorem dX5_passBlanks_61 : decode cX5_passBlanks 61 = .ok (.iconst 1, 1) := by decide +kernel
theorem dX5_passBlanks_62 : decode cX5_passBlanks 62 = .ok (.iadd, 1) := by decide +kernel
theorem dX5_passBlanks_63 : decode cX5_passBlanks 63 = .ok (.putfield 47, 3) := by decide +kernel
theorem dX5_passBlanks_66 : decode cX5_passBlanks 66 = .ok (.goto (-64), 3) := by decide +kernel
theorem dX5_passBlanks_69 : decode cX5_passBlanks 69 = .ok (.return_, 1) := by decide +kernel
theorem dX5_readNumber_0 : decode cX5_readNumber 0 = .ok (.aload_n 0, 1) := by decide +kernel
theorem dX5_readNumber_1 : decode cX5_readNumber 1 = .ok (.aload_n 1, 1) := by decide +kernel
theorem dX5_readNumber_2 : decode cX5_readNumber 2 = .ok (.getfield 47, 3) := by decide +kernel
theorem dX5_readNumber_5 : decode cX5_readNumber 5 = .ok (.putfield 77, 3) := by decide +kernel
theorem dX5_readNumber_8 : decode cX5_readNumber 8 = .ok (.aload_n 1, 1) := by decide +kernel
theorem dX5_readNumber_9 : decode cX5_readNumber 9 = .ok (.invokevirtual 68, 3) := by decide +kernel
theorem dX5_readNumber_12 : decode cX5_readNumber 12 = .ok (.istore_n 2, 1) := by decide +kernel
theorem dX5_readNumber_13 : decode cX5_readNumber 13 = .ok (.iload_n 2, 1) := by decide +kernel
theorem dX5_readNumber_14 : decode cX5_readNumber 14 = .ok (.invokestatic 94, 3) := by decide +kernel
theorem dX5_readNumber_17 : decode cX5_readNumber 17 = .ok (.ifCond .ne 12, 3) := by decide +kernel
theorem dX5_readNumber_20 : decode cX5_readNumber 20 = .ok (.aload_n 1, 1) := by decide +kernel
theorem dX5_readNumber_21 : decode cX5_readNumber 21 = .ok (.iconst 2, 1) := by decide +kernel
theorem dX5_readNumber_22 : decode cX5_readNumber 22 = .ok (.aload_n 0, 1) := by decide +kernel
theorem dX5_readNumber_23 : decode cX5_readNumber 23 = .ok (.getfield 77, 3) := by decide +kernel
theorem dX5_readNumber_26 : decode cX5_readNumber 26 = .ok (.invokevirtual 72, 3) := by decide +kernel
theorem dX5_readNumber_29 : decode cX5_readNumber 29 = .ok (.iload_n 2, 1) := by decide +kernel
theorem dX5_readNumber_30 : decode cX5_readNumber 30 = .ok (.bipush 48, 2) := by decide +kernel
theorem dX5_readNumber_32 : decode cX5_readNumber 32 = .ok (.isub, 1) := by decide +kernel
theorem dX5_readNumber_33 : decode cX5_readNumber 33 = .ok (.istore_n 3, 1) := by decide +kernel
theorem dX5_readNumber_34 : decode cX5_readNumber 34 = .ok (.aload_n 1, 1) := by decide +kernel
theorem dX5_readNumber_35 : decode cX5_readNumber 35 = .ok (.getfield 47, 3) := by decide +kernel
theorem dX5_readNumber_38 : decode cX5_readNumber 38 = .ok (.aload_n 1, 1) := by decide +kernel
theorem dX5_readNumber_39 : decode cX5_readNumber 39 = .ok (.getfield 91, 3) := by decide +kernel
theorem dX5_readNumber_42 : decode cX5_readNumber 42 = .ok (.if_icmp .ge 44, 3) := by decide +kernel
theorem dX5_readNumber_45 : decode cX5_readNumber 45 = .ok (.aload_n 1, 1) := by decide +kernel
theorem dX5_readNumber_46 : decode cX5_readNumber 46 = .ok (.invokevirtual 88, 3) := by decide +kernel
theorem dX5_readNumber_49 : decode cX5_readNumber 49 = .ok (.invokestatic 94, 3) := by decide +kernel
theorem dX5_readNumber_52 : decode cX5_readNumber 52 = .ok (.ifCond .eq 34, 3) := by decide +kernel
theorem dX5_readNumber_55 : decode cX5_readNumber 55 = .ok (.bipush 10, 2) := by decide +kernel
theorem dX5_readNumber_57 : decode cX5_readNumber 57 = .ok (.iload_n 3, 1) := by decide +kernel
theorem dX5_readNumber_58 : decode cX5_readNumber 58 = .ok (.imul, 1) := by decide +kernel
theorem dX5_readNumber_59 : decode cX5_readNumber 59 = .ok (.aload_n 1, 1) := by decide +kernel
theorem dX5_readNumber_60 : decode cX5_readNumber 60 = .ok (.invokevirtual 88, 3) := by decide +kernel
theorem dX5_readNumber_63 : decode cX5_readNumber 63 = .ok (.iadd, 1) := by decide +kernel
theorem dX5_readNumber_64 : decode cX5_readNumber 64 = .ok (.bipush 48, 2) := by decide +kernel
theorem dX5_readNumber_66 : decode cX5_readNumber 66 = .ok (.isub, 1) := by decide +kernel
theorem dX5_readNumber_67 : decode cX5_readNumber 67 = .ok (.ldc 76, 2) := by decide +kernel
theorem dX5_readNumber_69 : decode cX5_readNumber 69 = .ok (.invokestatic 97, 3) := by decide +kernel
theorem dX5_readNumber_72 : decode cX5_readNumber 72 = .ok (.istore_n 3, 1) := by decide +kernel
theorem dX5_readNumber_73 : decode cX5_readNumber 73 = .ok (.aload_n 1, 1) := by decide +kernel
theorem dX5_readNumber_74 : decode cX5_readNumber 74 = .ok (.dup, 1) := by decide +kernel
theorem dX5_readNumber_75 : decode cX5_readNumber 75 = .ok (.getfield 47, 3) := by decide +kernel
theorem dX5_readNumber_78 : decode cX5_readNumber 78 = .ok (.iconst 1, 1) := by decide +kernel
theorem dX5_readNumber_79 : decode cX5_readNumber 79 = .ok (.iadd, 1) := by decide +kernel
theorem dX5_readNumber_80 : decode cX5_readNumber 80 = .ok (.putfield 47, 3) := by decide +kernel
theorem dX5_readNumber_83 : decode cX5_readNumber 83 = .ok (.goto (-49), 3) := by decide +kernel
theorem dX5_readNumber_86 : decode cX5_readNumber 86 = .ok (.iload_n 3, 1) := by decide +kernel
theorem dX5_readNumber_87 : decode cX5_readNumber 87 = .ok (.ireturn, 1) := by decide +kernel
theorem dX5_readSigns_0 : decode cX5_readSigns 0 = .ok (.aload_n 0, 1) := by decide +kernel
theorem dX5_readSigns_1 : decode cX5_readSigns 1 = .ok (.invokestatic 32, 3) := by decide +kernel
theorem dX5_readSigns_4 : decode cX5_readSigns 4 = .ok (.aload_n 1, 1) := by decide +kernel
theorem dX5_readSigns_5 : decode cX5_readSigns 5 = .ok (.invokevirtual 103, 3) := by decide +kernel
theorem dX5_readSigns_8 : decode cX5_readSigns 8 = .ok (.istore_n 2, 1) := by decide +kernel
theorem dX5_readSigns_9 : decode cX5_readSigns 9 = .ok (.iconst 0, 1) := by decide +kernel
theorem dX5_readSigns_10 : decode cX5_readSigns 10 = .ok (.istore_n 3, 1) := by decide +kernel
theorem dX5_readSigns_11 : decode cX5_readSigns 11 = .ok (.iload_n 3, 1) := by decide +kernel
theorem dX5_readSigns_12 : decode cX5_readSigns 12 = .ok (.iload_n 2, 1) := by decide +kernel
theorem dX5_readSigns_13 : decode cX5_readSigns 13 = .ok (.if_icmp .ge 65, 3) := by decide +kernel
theorem dX5_readSigns_16 : decode cX5_readSigns 16 = .ok (.aload_n 0, 1) := by decide +kernel
theorem dX5_readSigns_17 : decode cX5_readSigns 17 = .ok (.invokestatic 62, 3) := by decide +kernel
theorem dX5_readSigns_20 : decode cX5_readSigns 20 = .ok (.aload_n 0, 1) := by decide +kernel
theorem dX5_readSigns_21 : decode cX5_readSigns 21 = .ok (.getfield 47, 3) := by decide +kernel
theorem dX5_readSigns_24 : decode cX5_readSigns 24 = .ok (.istore 4, 2) := by decide +kernel
theorem dX5_readSigns_26 : decode cX5_readSigns 26 = .ok (.aload_n 0, 1) := by decide +kernel
theorem dX5_readSigns_27 : decode cX5_readSigns 27 = .ok (.invokevirtual 68, 3) := by decide +kernel
theorem dX5_readSigns_30 : decode cX5_readSigns 30 = .ok (.istore 5, 2) := by decide +kernel
theorem dX5_readSigns_32 : decode cX5_readSigns 32 = .ok (.iload 5, 2) := by decide +kernel
theorem dX5_readSigns_34 : decode cX5_readSigns 34 = .ok (.bipush 48, 2) := by decide +kernel
theorem dX5_readSigns_36 : decode cX5_readSigns 36 = .ok (.if_icmp .eq 17, 3) := by decide +kernel
theorem dX5_readSigns_39 : decode cX5_readSigns 39 = .ok (.iload 5, 2) := by decide +kernel
theorem dX5_readSigns_41 : decode cX5_readSigns 41 = .ok (.bipush 49, 2) := by decide +kernel
theorem dX5_readSigns_43 : decode cX5_readSigns 43 = .ok (.if_icmp .eq 10, 3) := by decide +kernel
theorem dX5_readSigns_46 : decode cX5_readSigns 46 = .ok (.aload_n 0, 1) := by decide +kernel
theorem dX5_readSigns_47 : decode cX5_readSigns 47 = .ok (.iconst 2, 1) := by decide +kernel
theorem dX5_readSigns_48 : decode cX5_readSigns 48 = .ok (.iload 4, 2) := by decide +kernel
theorem dX5_readSigns_50 : decode cX5_readSigns 50 = .ok (.invokevirtual 72, 3) := by decide +kernel
theorem dX5_readSigns_53 : decode cX5_readSigns 53 = .ok (.aload_n 1, 1) := by decide +kernel
theorem dX5_readSigns_54 : decode cX5_readSigns 54 = .ok (.iload_n 3, 1) := by decide +kernel
theorem dX5_readSigns_55 : decode cX5_readSigns 55 = .ok (.iload 5, 2) := by decide +kernel
theorem dX5_readSigns_57 : decode cX5_readSigns 57 = .ok (.bipush 49, 2) := by decide +kernel
theorem dX5_readSigns_59 : decode cX5_readSigns 59 = .ok (.if_icmp .ne 9, 3) := by decide +kernel
theorem dX5_readSigns_62 : decode cX5_readSigns 62 = .ok (.sipush 255, 3) := by decide +kernel
theorem dX5_readSigns_65 : decode cX5_readSigns 65 = .ok (.goto 4, 3) := by decide +kernel
theorem dX5_readSigns_68 : decode cX5_readSigns 68 = .ok (.iconst (-1), 1) := by decide +kernel
theorem dX5_readSigns_69 : decode cX5_readSigns 69 = .ok (.invokevirtual 108, 3) := by decide +kernel
theorem dX5_readSigns_72 : decode cX5_readSigns 72 = .ok (.iinc 3 1, 3) := by decide +kernel
theorem dX5_readSigns_75 : decode cX5_readSigns 75 = .ok (.goto (-64), 3) := by decide +kernel
theorem dX5_readSigns_78 : decode cX5_readSigns 78 = .ok (.return_, 1) := by decide +kernel
theorem dX5_readBits_0 : decode cX5_readBits 0 = .ok (.iconst 0, 1) := by decide +kernel
theorem dX5_readBits_1 : decode cX5_readBits 1 = .ok (.istore_n 2, 1) := by decide +kernel
theorem dX5_readBits_2 : decode cX5_readBits 2 = .ok (.iconst 0, 1) := by decide +kernel
theorem dX5_readBits_3 : decode cX5_readBits 3 = .ok (.istore_n 3, 1) := by decide +kernel
theorem dX5_readBits_4 : decode cX5_readBits 4 = .ok (.iconst 0, 1) := by decide +kernel
theorem dX5_readBits_5 : decode cX5_readBits 5 = .ok (.istore 4, 2) := by decide +kernel
theorem dX5_readBits_7 : decode cX5_readBits 7 = .ok (.iload 4, 2) := by decide +kernel
theorem dX5_readBits_9 : decode cX5_readBits 9 = .ok (.aload_n 1, 1) := by decide +kernel
theorem dX5_readBits_10 : decode cX5_readBits 10 = .ok (.getfield 111, 3) := by decide +kernel
theorem dX5_readBits_13 : decode cX5_readBits 13 = .ok (.if_icmp .ge 69, 3) := by decide +kernel
theorem dX5_readBits_16 : decode cX5_readBits 16 = .ok (.iconst 0, 1) := by decide +kernel
theorem dX5_readBits_17 : decode cX5_readBits 17 = .ok (.istore 5, 2) := by decide +kernel
theorem dX5_readBits_19 : decode cX5_readBits 19 = .ok (.iload 5, 2) := by decide +kernel
theorem dX5_readBits_21 : decode cX5_readBits 21 = .ok (.aload_n 1, 1) := by decide +kernel
theorem dX5_readBits_22 : decode cX5_readBits 22 = .ok (.getfield 114, 3) := by decide +kernel
theorem dX5_readBits_25 : decode cX5_readBits 25 = .ok (.if_icmp .ge 51, 3) := by decide +kernel
theorem dX5_readBits_28 : decode cX5_readBits 28 = .ok (.iload 5, 2) := by decide +kernel
theorem dX5_readBits_30 : decode cX5_readBits 30 = .ok (.bipush 7, 2) := by decide +kernel
theorem dX5_readBits_32 : decode cX5_readBits 32 = .ok (.iand, 1) := by decide +kernel
theorem dX5_readBits_33 : decode cX5_readBits 33 = .ok (.ifCond .ne 10, 3) := by decide +kernel
theorem dX5_readBits_36 : decode cX5_readBits 36 = .ok (.aload_n 0, 1) := by decide +kernel
theorem dX5_readBits_37 : decode cX5_readBits 37 = .ok (.invokevirtual 68, 3) := by decide +kernel
theorem dX5_readBits_40 : decode cX5_readBits 40 = .ok (.goto 6, 3) := by decide +kernel
theorem dX5_readBits_43 : decode cX5_readBits 43 = .ok (.iload_n 3, 1) := by decide +kernel
theorem dX5_readBits_44 : decode cX5_readBits 44 = .ok (.iconst 1, 1) := by decide +kernel
theorem dX5_readBits_45 : decode cX5_readBits 45 = .ok (.ishl, 1) := by decide +kernel
theorem dX5_readBits_46 : decode cX5_readBits 46 = .ok (.istore_n 3, 1) := by decide +kernel
theorem dX5_readBits_47 : decode cX5_readBits 47 = .ok (.aload_n 1, 1) := by decide +kernel
theorem dX5_readBits_48 : decode cX5_readBits 48 = .ok (.iload_n 2, 1) := by decide +kernel
theorem dX5_readBits_49 : decode cX5_readBits 49 = .ok (.iload_n 3, 1) := by decide +kernel
theorem dX5_readBits_50 : decode cX5_readBits 50 = .ok (.sipush 128, 3) := by decide +kernel
theorem dX5_readBits_53 : decode cX5_readBits 53 = .ok (.iand, 1) := by decide +kernel
theorem dX5_readBits_54 : decode cX5_readBits 54 = .ok (.ifCond .eq 9, 3) := by decide +kernel
theorem dX5_readBits_57 : decode cX5_readBits 57 = .ok (.sipush 255, 3) := by decide +kernel
theorem dX5_readBits_60 : decode cX5_readBits 60 = .ok (.goto 4, 3) := by decide +kernel
theorem dX5_readBits_63 : decode cX5_readBits 63 = .ok (.iconst (-1), 1) := by decide +kernel
theorem dX5_readBits_64 : decode cX5_readBits 64 = .ok (.invokevirtual 108, 3) := by decide +kernel
theorem dX5_readBits_67 : decode cX5_readBits 67 = .ok (.iinc 2 1, 3) := by decide +kernel
theorem dX5_readBits_70 : decode cX5_readBits 70 = .ok (.iinc 5 1, 3) := by decide +kernel
theorem dX5_readBits_73 : decode cX5_readBits 73 = .ok (.goto (-54), 3) := by decide +kernel
theorem dX5_readBits_76 : decode cX5_readBits 76 = .ok (.iinc 4 1, 3) := by decide +kernel
theorem dX5_readBits_79 : decode cX5_readBits 79 = .ok (.goto (-72), 3) := by decide +kernel
theorem dX5_readBits_82 : decode cX5_readBits 82 = .ok (.return_, 1) := by decide +kernel
theorem dX5_readSamples_0 : decode cX5_readSamples 0 = .ok (.aload_n 0, 1) := by decide +kernel
theorem dX5_readSamples_1 : decode cX5_readSamples 1 = .ok (.getfield 29, 3) := by decide +kernel
theorem dX5_readSamples_4 : decode cX5_readSamples 4 = .ok (.iconst 3, 1) := by decide +kernel
theorem dX5_readSamples_5 : decode cX5_readSamples 5 = .ok (.if_icmp .eq 12, 3) := by decide +kernel
theorem dX5_readSamples_8 : decode cX5_readSamples 8 = .ok (.aload_n 0, 1) := by decide +kernel
theorem dX5_readSamples_9 : decode cX5_readSamples 9 = .ok (.getfield 29, 3) := by decide +kernel
theorem dX5_readSamples_12 : decode cX5_readSamples 12 = .ok (.bipush 6, 2) := by decide +kernel
theorem dX5_readSamples_14 : decode cX5_readSamples 14 = .ok (.if_icmp .ne 7, 3) := by decide +kernel
theorem dX5_readSamples_17 : decode cX5_readSamples 17 = .ok (.iconst 1, 1) := by decide +kernel
theorem dX5_readSamples_18 : decode cX5_readSamples 18 = .ok (.goto 4, 3) := by decide +kernel
theorem dX5_readSamples_21 : decode cX5_readSamples 21 = .ok (.iconst 0, 1) := by decide +kernel
theorem dX5_readSamples_22 : decode cX5_readSamples 22 = .ok (.istore_n 3, 1) := by decide +kernel
theorem dX5_readSamples_23 : decode cX5_readSamples 23 = .ok (.aload_n 2, 1) := by decide +kernel
theorem dX5_readSamples_24 : decode cX5_readSamples 24 = .ok (.invokevirtual 103, 3) := by decide +kernel
theorem dX5_readSamples_27 : decode cX5_readSamples 27 = .ok (.istore 4, 2) := by decide +kernel
theorem dX5_readSamples_29 : decode cX5_readSamples 29 = .ok (.iconst 0, 1) := by decide +kernel
theorem dX5_readSamples_30 : decode cX5_readSamples 30 = .ok (.istore 5, 2) := by decide +kernel
theorem dX5_readSamples_32 : decode cX5_readSamples 32 = .ok (.iload 5, 2) := by decide +kernel
theorem dX5_readSamples_34 : decode cX5_readSamples 34 = .ok (.iload 4, 2) := by decide +kernel
theorem dX5_readSamples_36 : decode cX5_readSamples 36 = .ok (.if_icmp .ge 66, 3) := by decide +kernel
theorem dX5_readSamples_39 : decode cX5_readSamples 39 = .ok (.aload_n 0, 1) := by decide +kernel
theorem dX5_readSamples_40 : decode cX5_readSamples 40 = .ok (.aload_n 1, 1) := by decide +kernel
theorem dX5_readSamples_41 : decode cX5_readSamples 41 = .ok (.invokevirtual 117, 3) := by decide +kernel
theorem dX5_readSamples_44 : decode cX5_readSamples 44 = .ok (.istore 6, 2) := by decide +kernel
theorem dX5_readSamples_46 : decode cX5_readSamples 46 = .ok (.iload_n 3, 1) := by decide +kernel
theorem dX5_readSamples_47 : decode cX5_readSamples 47 = .ok (.ifCond .eq 11, 3) := by decide +kernel
theorem dX5_readSamples_50 : decode cX5_readSamples 50 = .ok (.aload_n 0, 1) := by decide +kernel
theorem dX5_readSamples_51 : decode cX5_readSamples 51 = .ok (.aload_n 1, 1) := by decide +kernel
theorem dX5_readSamples_52 : decode cX5_readSamples 52 = .ok (.invokevirtual 117, 3) := by decide +kernel
theorem dX5_readSamples_55 : decode cX5_readSamples 55 = .ok (.goto 5, 3) := by decide +kernel
theorem dX5_readSamples_58 : decode cX5_readSamples 58 = .ok (.iload 6, 2) := by decide +kernel
theorem dX5_readSamples_60 : decode cX5_readSamples 60 = .ok (.istore 7, 2) := by decide +kernel
theorem dX5_readSamples_62 : decode cX5_readSamples 62 = .ok (.iload_n 3, 1) := by decide +kernel
theorem dX5_readSamples_63 : decode cX5_readSamples 63 = .ok (.ifCond .eq 11, 3) := by decide +kernel
theorem dX5_readSamples_66 : decode cX5_readSamples 66 = .ok (.aload_n 0, 1) := by decide +kernel
theorem dX5_readSamples_67 : decode cX5_readSamples 67 = .ok (.aload_n 1, 1) := by decide +kernel
theorem dX5_readSamples_68 : decode cX5_readSamples 68 = .ok (.invokevirtual 117, 3) := by decide +kernel
theorem dX5_readSamples_71 : decode cX5_readSamples 71 = .ok (.goto 5, 3) := by decide +kernel
theorem dX5_readSamples_74 : decode cX5_readSamples 74 = .ok (.iload 6, 2) := by decide +kernel
theorem dX5_readSamples_76 : decode cX5_readSamples 76 = .ok (.istore 8, 2) := by decide +kernel
theorem dX5_readSamples_78 : decode cX5_readSamples 78 = .ok (.aload_n 2, 1) := by decide +kernel
theorem dX5_readSamples_79 : decode cX5_readSamples 79 = .ok (.iload 5, 2) := by decide +kernel
theorem dX5_readSamples_81 : decode cX5_readSamples 81 = .ok (.iload 6, 2) := by decide +kernel
theorem dX5_readSamples_83 : decode cX5_readSamples 83 = .ok (.iload 7, 2) := by decide +kernel
theorem dX5_readSamples_85 : decode cX5_readSamples 85 = .ok (.iload 8, 2) := by decide +kernel
theorem dX5_readSamples_87 : decode cX5_readSamples 87 = .ok (.sipush 255, 3) := by decide +kernel
theorem dX5_readSamples_90 : decode cX5_readSamples 90 = .ok (.invokestatic 120, 3) := by decide +kernel
theorem dX5_readSamples_93 : decode cX5_readSamples 93 = .ok (.invokevirtual 108, 3) := by decide +kernel
theorem dX5_readSamples_96 : decode cX5_readSamples 96 = .ok (.iinc 5 1, 3) := by decide +kernel
theorem dX5_readSamples_99 : decode cX5_readSamples 99 = .ok (.goto (-67), 3) := by decide +kernel
theorem dX5_readSamples_102 : decode cX5_readSamples 102 = .ok (.return_, 1) := by decide +kernel
theorem dX5_readSample_0 : decode cX5_readSample 0 = .ok (.aload_n 0, 1) := by decide +kernel
theorem dX5_readSample_1 : decode cX5_readSample 1 = .ok (.getfield 29, 3) := by decide +kernel
theorem dX5_readSample_4 : decode cX5_readSample 4 = .ok (.iconst 3, 1) := by decide +kernel
theorem dX5_readSample_5 : decode cX5_readSample 5 = .ok (.if_icmp .gt 21, 3) := by decide +kernel
theorem dX5_readSample_8 : decode cX5_readSample 8 = .ok (.aload_n 1, 1) := by decide +kernel
theorem dX5_readSample_9 : decode cX5_readSample 9 = .ok (.invokestatic 32, 3) := by decide +kernel
theorem dX5_readSample_12 : decode cX5_readSample 12 = .ok (.aload_n 0, 1) := by decide +kernel
theorem dX5_readSample_13 : decode cX5_readSample 13 = .ok (.aload_n 1, 1) := by decide +kernel
theorem dX5_readSample_14 : decode cX5_readSample 14 = .ok (.invokevirtual 35, 3) := by decide +kernel
theorem dX5_readSample_17 : decode cX5_readSample 17 = .ok (.istore_n 2, 1) := by decide +kernel
theorem dX5_readSample_18 : decode cX5_readSample 18 = .ok (.aload_n 0, 1) := by decide +kernel
theorem dX5_readSample_19 : decode cX5_readSample 19 = .ok (.getfield 77, 3) := by decide +kernel
theorem dX5_readSample_22 : decode cX5_readSample 22 = .ok (.istore_n 3, 1) := by decide +kernel
theorem dX5_readSample_23 : decode cX5_readSample 23 = .ok (.goto 33, 3) := by decide +kernel
theorem dX5_readSample_26 : decode cX5_readSample 26 = .ok (.aload_n 1, 1) := by decide +kernel
theorem dX5_readSample_27 : decode cX5_readSample 27 = .ok (.getfield 47, 3) := by decide +kernel
theorem dX5_readSample_30 : decode cX5_readSample 30 = .ok (.istore_n 3, 1) := by decide +kernel
theorem dX5_readSample_31 : decode cX5_readSample 31 = .ok (.aload_n 1, 1) := by decide +kernel
theorem dX5_readSample_32 : decode cX5_readSample 32 = .ok (.invokevirtual 68, 3) := by decide +kernel
theorem dX5_readSample_35 : decode cX5_readSample 35 = .ok (.istore_n 2, 1) := by decide +kernel
theorem dX5_readSample_36 : decode cX5_readSample 36 = .ok (.aload_n 0, 1) := by decide +kernel
theorem dX5_readSample_37 : decode cX5_readSample 37 = .ok (.getfield 25, 3) := by decide +kernel
theorem dX5_readSample_40 : decode cX5_readSample 40 = .ok (.sipush 255, 3) := by decide +kernel
theorem dX5_readSample_43 : decode cX5_readSample 43 = .ok (.if_icmp .le 13, 3) := by decide +kernel
theorem dX5_readSample_46 : decode cX5_readSample 46 = .ok (.iload_n 2, 1) := by decide +kernel
theorem dX5_readSample_47 : decode cX5_readSample 47 = .ok (.bipush 8, 2) := by decide +kernel
theorem dX5_readSample_49 : decode cX5_readSample 49 = .ok (.ishl, 1) := by decide +kernel
theorem dX5_readSample_50 : decode cX5_readSample 50 = .ok (.aload_n 1, 1) := by decide +kernel
theorem dX5_readSample_51 : decode cX5_readSample 51 = .ok (.invokevirtual 68, 3) := by decide +kernel
theorem dX5_readSample_54 : decode cX5_readSample 54 = .ok (.ior, 1) := by decide +kernel
theorem dX5_readSample_55 : decode cX5_readSample 55 = .ok (.istore_n 2, 1) := by decide +kernel
theorem dX5_readSample_56 : decode cX5_readSample 56 = .ok (.iload_n 2, 1) := by decide +kernel
theorem dX5_readSample_57 : decode cX5_readSample 57 = .ok (.aload_n 0, 1) := by decide +kernel
theorem dX5_readSample_58 : decode cX5_readSample 58 = .ok (.getfield 25, 3) := by decide +kernel
theorem dX5_readSample_61 : decode cX5_readSample 61 = .ok (.if_icmp .le 10, 3) := by decide +kernel
theorem dX5_readSample_64 : decode cX5_readSample 64 = .ok (.aload_n 1, 1) := by decide +kernel
theorem dX5_readSample_65 : decode cX5_readSample 65 = .ok (.bipush 6, 2) := by decide +kernel
theorem dX5_readSample_67 : decode cX5_readSample 67 = .ok (.iload_n 3, 1) := by decide +kernel
theorem dX5_readSample_68 : decode cX5_readSample 68 = .ok (.invokevirtual 72, 3) := by decide +kernel
theorem dX5_readSample_71 : decode cX5_readSample 71 = .ok (.aload_n 0, 1) := by decide +kernel
theorem dX5_readSample_72 : decode cX5_readSample 72 = .ok (.getfield 25, 3) := by decide +kernel
theorem dX5_readSample_75 : decode cX5_readSample 75 = .ok (.iconst 1, 1) := by decide +kernel
theorem dX5_readSample_76 : decode cX5_readSample 76 = .ok (.if_icmp .ge 7, 3) := by decide +kernel
theorem dX5_readSample_79 : decode cX5_readSample 79 = .ok (.iconst 0, 1) := by decide +kernel
theorem dX5_readSample_80 : decode cX5_readSample 80 = .ok (.goto 20, 3) := by decide +kernel
theorem dX5_readSample_83 : decode cX5_readSample 83 = .ok (.sipush 510, 3) := by decide +kernel
theorem dX5_readSample_86 : decode cX5_readSample 86 = .ok (.iload_n 2, 1) := by decide +kernel
theorem dX5_readSample_87 : decode cX5_readSample 87 = .ok (.imul, 1) := by decide +kernel
theorem dX5_readSample_88 : decode cX5_readSample 88 = .ok (.aload_n 0, 1) := by decide +kernel
theorem dX5_readSample_89 : decode cX5_readSample 89 = .ok (.getfield 25, 3) := by decide +kernel
theorem dX5_readSample_92 : decode cX5_readSample 92 = .ok (.iadd, 1) := by decide +kernel
theorem dX5_readSample_93 : decode cX5_readSample 93 = .ok (.iconst 2, 1) := by decide +kernel
theorem dX5_readSample_94 : decode cX5_readSample 94 = .ok (.aload_n 0, 1) := by decide +kernel
theorem dX5_readSample_95 : decode cX5_readSample 95 = .ok (.getfield 25, 3) := by decide +kernel
theorem dX5_readSample_98 : decode cX5_readSample 98 = .ok (.imul, 1) := by decide +kernel
theorem dX5_readSample_99 : decode cX5_readSample 99 = .ok (.idiv, 1) := by decide +kernel
theorem dX5_readSample_100 : decode cX5_readSample 100 = .ok (.ireturn, 1) := by decide +kernel
theorem dX5_encode_0 : decode cX5_encode 0 = .ok (.aload_n 3, 1) := by decide +kernel
theorem dX5_encode_1 : decode cX5_encode 1 = .ok (.bipush 80, 2) := by decide +kernel
theorem dX5_encode_3 : decode cX5_encode 3 = .ok (.invokevirtual 124, 3) := by decide +kernel
theorem dX5_encode_6 : decode cX5_encode 6 = .ok (.aload_n 3, 1) := by decide +kernel
theorem dX5_encode_7 : decode cX5_encode 7 = .ok (.bipush 48, 2) := by decide +kernel
theorem dX5_encode_9 : decode cX5_encode 9 = .ok (.iload_n 2, 1) := by decide +kernel
theorem dX5_encode_10 : decode cX5_encode 10 = .ok (.iadd, 1) := by decide +kernel
theorem dX5_encode_11 : decode cX5_encode 11 = .ok (.invokevirtual 124, 3) := by decide +kernel
theorem dX5_encode_14 : decode cX5_encode 14 = .ok (.aload_n 3, 1) := by decide +kernel
theorem dX5_encode_15 : decode cX5_encode 15 = .ok (.bipush 10, 2) := by decide +kernel
theorem dX5_encode_17 : decode cX5_encode 17 = .ok (.invokevirtual 124, 3) := by decide +kernel
theorem dX5_encode_20 : decode cX5_encode 20 = .ok (.aload_n 3, 1) := by decide +kernel
theorem dX5_encode_21 : decode cX5_encode 21 = .ok (.aload_n 1, 1) := by decide +kernel
theorem dX5_encode_22 : decode cX5_encode 22 = .ok (.getfield 114, 3) := by decide +kernel
theorem dX5_encode_25 : decode cX5_encode 25 = .ok (.invokevirtual 129, 3) := by decide +kernel
theorem dX5_encode_28 : decode cX5_encode 28 = .ok (.aload_n 3, 1) := by decide +kernel
theorem dX5_encode_29 : decode cX5_encode 29 = .ok (.bipush 32, 2) := by decide +kernel
theorem dX5_encode_31 : decode cX5_encode 31 = .ok (.invokevirtual 124, 3) := by decide +kernel
theorem dX5_encode_34 : decode cX5_encode 34 = .ok (.aload_n 3, 1) := by decide +kernel
theorem dX5_encode_35 : decode cX5_encode 35 = .ok (.aload_n 1, 1) := by decide +kernel
theorem dX5_encode_36 : decode cX5_encode 36 = .ok (.getfield 111, 3) := by decide +kernel
theorem dX5_encode_39 : decode cX5_encode 39 = .ok (.invokevirtual 129, 3) := by decide +kernel
theorem dX5_encode_42 : decode cX5_encode 42 = .ok (.aload_n 3, 1) := by decide +kernel
theorem dX5_encode_43 : decode cX5_encode 43 = .ok (.bipush 10, 2) := by decide +kernel
theorem dX5_encode_45 : decode cX5_encode 45 = .ok (.invokevirtual 124, 3) := by decide +kernel
theorem dX5_encode_48 : decode cX5_encode 48 = .ok (.iload_n 2, 1) := by decide +kernel
theorem dX5_encode_49 : decode cX5_encode 49 = .ok (.iconst 1, 1) := by decide +kernel
theorem dX5_encode_50 : decode cX5_encode 50 = .ok (.if_icmp .ne 11, 3) := by decide +kernel
theorem dX5_encode_53 : decode cX5_encode 53 = .ok (.aload_n 1, 1) := by decide +kernel
theorem dX5_encode_54 : decode cX5_encode 54 = .ok (.aload_n 3, 1) := by decide +kernel
theorem dX5_encode_55 : decode cX5_encode 55 = .ok (.invokestatic 132, 3) := by decide +kernel
theorem dX5_encode_58 : decode cX5_encode 58 = .ok (.goto 22, 3) := by decide +kernel
theorem dX5_encode_61 : decode cX5_encode 61 = .ok (.iload_n 2, 1) := by decide +kernel
theorem dX5_encode_62 : decode cX5_encode 62 = .ok (.iconst 4, 1) := by decide +kernel
theorem dX5_encode_63 : decode cX5_encode 63 = .ok (.if_icmp .ne 11, 3) := by decide +kernel
theorem dX5_encode_66 : decode cX5_encode 66 = .ok (.aload_n 1, 1) := by decide +kernel
theorem dX5_encode_67 : decode cX5_encode 67 = .ok (.aload_n 3, 1) := by decide +kernel
theorem dX5_encode_68 : decode cX5_encode 68 = .ok (.invokestatic 136, 3) := by decide +kernel
theorem dX5_encode_71 : decode cX5_encode 71 = .ok (.goto 9, 3) := by decide +kernel
theorem dX5_encode_74 : decode cX5_encode 74 = .ok (.aload_n 1, 1) := by decide +kernel
theorem dX5_encode_75 : decode cX5_encode 75 = .ok (.iload_n 2, 1) := by decide +kernel
theorem dX5_encode_76 : decode cX5_encode 76 = .ok (.aload_n 3, 1) := by decide +kernel
theorem dX5_encode_77 : decode cX5_encode 77 = .ok (.invokestatic 139, 3) := by decide +kernel
theorem dX5_encode_80 : decode cX5_encode 80 = .ok (.return_, 1) := by decide +kernel
theorem dX5_writeSigns_0 : decode cX5_writeSigns 0 = .ok (.iconst 0, 1) := by decide +kernel
theorem dX5_writeSigns_1 : decode cX5_writeSigns 1 = .ok (.istore_n 2, 1) := by decide +kernel
theorem dX5_writeSigns_2 : decode cX5_writeSigns 2 = .ok (.iconst 0, 1) := by decide +kernel
theorem dX5_writeSigns_3 : decode cX5_writeSigns 3 = .ok (.istore_n 3, 1) := by decide +kernel
theorem dX5_writeSigns_4 : decode cX5_writeSigns 4 = .ok (.iload_n 3, 1) := by decide +kernel
theorem dX5_writeSigns_5 : decode cX5_writeSigns 5 = .ok (.aload_n 0, 1) := by decide +kernel
theorem dX5_writeSigns_6 : decode cX5_writeSigns 6 = .ok (.getfield 111, 3) := by decide +kernel
theorem dX5_writeSigns_9 : decode cX5_writeSigns 9 = .ok (.if_icmp .ge 75, 3) := by decide +kernel
theorem dX5_writeSigns_12 : decode cX5_writeSigns 12 = .ok (.iconst 1, 1) := by decide +kernel
theorem dX5_writeSigns_13 : decode cX5_writeSigns 13 = .ok (.istore 4, 2) := by decide +kernel
theorem dX5_writeSigns_15 : decode cX5_writeSigns 15 = .ok (.iload 4, 2) := by decide +kernel
theorem dX5_writeSigns_17 : decode cX5_writeSigns 17 = .ok (.aload_n 0, 1) := by decide +kernel
theorem dX5_writeSigns_18 : decode cX5_writeSigns 18 = .ok (.getfield 114, 3) := by decide +kernel
theorem dX5_writeSigns_21 : decode cX5_writeSigns 21 = .ok (.if_icmp .gt 57, 3) := by decide +kernel
theorem dX5_writeSigns_24 : decode cX5_writeSigns 24 = .ok (.aload_n 1, 1) := by decide +kernel
theorem dX5_writeSigns_25 : decode cX5_writeSigns 25 = .ok (.aload_n 0, 1) := by decide +kernel
theorem dX5_writeSigns_26 : decode cX5_writeSigns 26 = .ok (.iload_n 2, 1) := by decide +kernel
theorem dX5_writeSigns_27 : decode cX5_writeSigns 27 = .ok (.invokevirtual 143, 3) := by decide +kernel
theorem dX5_writeSigns_30 : decode cX5_writeSigns 30 = .ok (.sipush 255, 3) := by decide +kernel
theorem dX5_writeSigns_33 : decode cX5_writeSigns 33 = .ok (.if_icmp .ne 8, 3) := by decide +kernel
theorem dX5_writeSigns_36 : decode cX5_writeSigns 36 = .ok (.bipush 49, 2) := by decide +kernel
theorem dX5_writeSigns_38 : decode cX5_writeSigns 38 = .ok (.goto 5, 3) := by decide +kernel
theorem dX5_writeSigns_41 : decode cX5_writeSigns 41 = .ok (.bipush 48, 2) := by decide +kernel
theorem dX5_writeSigns_43 : decode cX5_writeSigns 43 = .ok (.invokevirtual 124, 3) := by decide +kernel
theorem dX5_writeSigns_46 : decode cX5_writeSigns 46 = .ok (.iinc 2 1, 3) := by decide +kernel
theorem dX5_writeSigns_49 : decode cX5_writeSigns 49 = .ok (.iload 4, 2) := by decide +kernel
theorem dX5_writeSigns_51 : decode cX5_writeSigns 51 = .ok (.bipush 70, 2) := by decide +kernel
theorem dX5_writeSigns_53 : decode cX5_writeSigns 53 = .ok (.irem, 1) := by decide +kernel
theorem dX5_writeSigns_54 : decode cX5_writeSigns 54 = .ok (.ifCond .eq 12, 3) := by decide +kernel
theorem dX5_writeSigns_57 : decode cX5_writeSigns 57 = .ok (.iload 4, 2) := by decide +kernel
theorem dX5_writeSigns_59 : decode cX5_writeSigns 59 = .ok (.aload_n 0, 1) := by decide +kernel
theorem dX5_writeSigns_60 : decode cX5_writeSigns 60 = .ok (.getfield 114, 3) := by decide +kernel
theorem dX5_writeSigns_63 : decode cX5_writeSigns 63 = .ok (.if_icmp .ne 9, 3) := by decide +kernel
theorem dX5_writeSigns_66 : decode cX5_writeSigns 66 = .ok (.aload_n 1, 1) := by decide +kernel
theorem dX5_writeSigns_67 : decode cX5_writeSigns 67 = .ok (.bipush 10, 2) := by decide +kernel
theorem dX5_writeSigns_69 : decode cX5_writeSigns 69 = .ok (.invokevirtual 124, 3) := by decide +kernel
theorem dX5_writeSigns_72 : decode cX5_writeSigns 72 = .ok (.iinc 4 1, 3) := by decide +kernel
theorem dX5_writeSigns_75 : decode cX5_writeSigns 75 = .ok (.goto (-60), 3) := by decide +kernel
theorem dX5_writeSigns_78 : decode cX5_writeSigns 78 = .ok (.iinc 3 1, 3) := by decide +kernel
theorem dX5_writeSigns_81 : decode cX5_writeSigns 81 = .ok (.goto (-77), 3) := by decide +kernel
theorem dX5_writeSigns_84 : decode cX5_writeSigns 84 = .ok (.return_, 1) := by decide +kernel
theorem dX5_writeBits_0 : decode cX5_writeBits 0 = .ok (.iconst 0, 1) := by decide +kernel
theorem dX5_writeBits_1 : decode cX5_writeBits 1 = .ok (.istore_n 2, 1) := by decide +kernel
theorem dX5_writeBits_2 : decode cX5_writeBits 2 = .ok (.iconst 0, 1) := by decide +kernel
theorem dX5_writeBits_3 : decode cX5_writeBits 3 = .ok (.istore_n 3, 1) := by decide +kernel
theorem dX5_writeBits_4 : decode cX5_writeBits 4 = .ok (.iload_n 3, 1) := by decide +kernel
theorem dX5_writeBits_5 : decode cX5_writeBits 5 = .ok (.aload_n 0, 1) := by decide +kernel
theorem dX5_writeBits_6 : decode cX5_writeBits 6 = .ok (.getfield 111, 3) := by decide +kernel
theorem dX5_writeBits_9 : decode cX5_writeBits 9 = .ok (.if_icmp .ge 88, 3) := by decide +kernel
theorem dX5_writeBits_12 : decode cX5_writeBits 12 = .ok (.iconst 0, 1) := by decide +kernel
theorem dX5_writeBits_13 : decode cX5_writeBits 13 = .ok (.istore 4, 2) := by decide +kernel
theorem dX5_writeBits_15 : decode cX5_writeBits 15 = .ok (.iconst 0, 1) := by decide +kernel
theorem dX5_writeBits_16 : decode cX5_writeBits 16 = .ok (.istore 5, 2) := by decide +kernel
theorem dX5_writeBits_18 : decode cX5_writeBits 18 = .ok (.iload 5, 2) := by decide +kernel
theorem dX5_writeBits_20 : decode cX5_writeBits 20 = .ok (.aload_n 0, 1) := by decide +kernel
theorem dX5_writeBits_21 : decode cX5_writeBits 21 = .ok (.getfield 114, 3) := by decide +kernel
theorem dX5_writeBits_24 : decode cX5_writeBits 24 = .ok (.if_icmp .ge 67, 3) := by decide +kernel
theorem dX5_writeBits_27 : decode cX5_writeBits 27 = .ok (.aload_n 0, 1) := by decide +kernel
theorem dX5_writeBits_28 : decode cX5_writeBits 28 = .ok (.iload_n 2, 1) := by decide +kernel
theorem dX5_writeBits_29 : decode cX5_writeBits 29 = .ok (.invokevirtual 143, 3) := by decide +kernel
theorem dX5_writeBits_32 : decode cX5_writeBits 32 = .ok (.sipush 255, 3) := by decide +kernel
theorem dX5_writeBits_35 : decode cX5_writeBits 35 = .ok (.if_icmp .ne 17, 3) := by decide +kernel
theorem dX5_writeBits_38 : decode cX5_writeBits 38 = .ok (.iload 4, 2) := by decide +kernel
theorem dX5_writeBits_40 : decode cX5_writeBits 40 = .ok (.sipush 128, 3) := by decide +kernel
theorem dX5_writeBits_43 : decode cX5_writeBits 43 = .ok (.iload 5, 2) := by decide +kernel
theorem dX5_writeBits_45 : decode cX5_writeBits 45 = .ok (.bipush 7, 2) := by decide +kernel
theorem dX5_writeBits_47 : decode cX5_writeBits 47 = .ok (.iand, 1) := by decide +kernel
theorem dX5_writeBits_48 : decode cX5_writeBits 48 = .ok (.ishr, 1) := by decide +kernel
theorem dX5_writeBits_49 : decode cX5_writeBits 49 = .ok (.ior, 1) := by decide +kernel
theorem dX5_writeBits_50 : decode cX5_writeBits 50 = .ok (.istore 4, 2) := by decide +kernel
theorem dX5_writeBits_52 : decode cX5_writeBits 52 = .ok (.iinc 2 1, 3) := by decide +kernel
theorem dX5_writeBits_55 : decode cX5_writeBits 55 = .ok (.iload 5, 2) := by decide +kernel
theorem dX5_writeBits_57 : decode cX5_writeBits 57 = .ok (.bipush 7, 2) := by decide +kernel
theorem dX5_writeBits_59 : decode cX5_writeBits 59 = .ok (.iand, 1) := by decide +kernel
theorem dX5_writeBits_60 : decode cX5_writeBits 60 = .ok (.bipush 7, 2) := by decide +kernel
theorem dX5_writeBits_62 : decode cX5_writeBits 62 = .ok (.if_icmp .eq 14, 3) := by decide +kernel
theorem dX5_writeBits_65 : decode cX5_writeBits 65 = .ok (.iload 5, 2) := by decide +kernel
theorem dX5_writeBits_67 : decode cX5_writeBits 67 = .ok (.aload_n 0, 1) := by decide +kernel
theorem dX5_writeBits_68 : decode cX5_writeBits 68 = .ok (.getfield 114, 3) := by decide +kernel
theorem dX5_writeBits_71 : decode cX5_writeBits 71 = .ok (.iconst 1, 1) := by decide +kernel
theorem dX5_writeBits_72 : decode cX5_writeBits 72 = .ok (.isub, 1) := by decide +kernel
theorem dX5_writeBits_73 : decode cX5_writeBits 73 = .ok (.if_icmp .ne 12, 3) := by decide +kernel
theorem dX5_writeBits_76 : decode cX5_writeBits 76 = .ok (.aload_n 1, 1) := by decide +kernel
theorem dX5_writeBits_77 : decode cX5_writeBits 77 = .ok (.iload 4, 2) := by decide +kernel
theorem dX5_writeBits_79 : decode cX5_writeBits 79 = .ok (.invokevirtual 124, 3) := by decide +kernel
theorem dX5_writeBits_82 : decode cX5_writeBits 82 = .ok (.iconst 0, 1) := by decide +kernel
theorem dX5_writeBits_83 : decode cX5_writeBits 83 = .ok (.istore 4, 2) := by decide +kernel
theorem dX5_writeBits_85 : decode cX5_writeBits 85 = .ok (.iinc 5 1, 3) := by decide +kernel
theorem dX5_writeBits_88 : decode cX5_writeBits 88 = .ok (.goto (-70), 3) := by decide +kernel
theorem dX5_writeBits_91 : decode cX5_writeBits 91 = .ok (.iinc 3 1, 3) := by decide +kernel
theorem dX5_writeBits_94 : decode cX5_writeBits 94 = .ok (.goto (-90), 3) := by decide +kernel
theorem dX5_writeBits_97 : decode cX5_writeBits 97 = .ok (.return_, 1) := by decide +kernel
theorem dX5_writeSamples_0 : decode cX5_writeSamples 0 = .ok (.aload_n 2, 1) := by decide +kernel
theorem dX5_writeSamples_1 : decode cX5_writeSamples 1 = .ok (.sipush 255, 3) := by decide +kernel
theorem dX5_writeSamples_4 : decode cX5_writeSamples 4 = .ok (.invokevirtual 129, 3) := by decide +kernel
theorem dX5_writeSamples_7 : decode cX5_writeSamples 7 = .ok (.aload_n 2, 1) := by decide +kernel
theorem dX5_writeSamples_8 : decode cX5_writeSamples 8 = .ok (.bipush 10, 2) := by decide +kernel
theorem dX5_writeSamples_10 : decode cX5_writeSamples 10 = .ok (.invokevirtual 124, 3) := by decide +kernel
theorem dX5_writeSamples_13 : decode cX5_writeSamples 13 = .ok (.aload_n 0, 1) := by decide +kernel
theorem dX5_writeSamples_14 : decode cX5_writeSamples 14 = .ok (.invokevirtual 103, 3) := by decide +kernel
theorem dX5_writeSamples_17 : decode cX5_writeSamples 17 = .ok (.istore_n 3, 1) := by decide +kernel
theorem dX5_writeSamples_18 : decode cX5_writeSamples 18 = .ok (.iconst 0, 1) := by decide +kernel
theorem dX5_writeSamples_19 : decode cX5_writeSamples 19 = .ok (.istore 4, 2) := by decide +kernel
theorem dX5_writeSamples_21 : decode cX5_writeSamples 21 = .ok (.iload 4, 2) := by decide +kernel
theorem dX5_writeSamples_23 : decode cX5_writeSamples 23 = .ok (.iload_n 3, 1) := by decide +kernel
theorem dX5_writeSamples_24 : decode cX5_writeSamples 24 = .ok (.if_icmp .ge 58, 3) := by decide +kernel
theorem dX5_writeSamples_27 : decode cX5_writeSamples 27 = .ok (.aload_n 0, 1) := by decide +kernel
theorem dX5_writeSamples_28 : decode cX5_writeSamples 28 = .ok (.iload 4, 2) := by decide +kernel
theorem dX5_writeSamples_30 : decode cX5_writeSamples 30 = .ok (.invokevirtual 143, 3) := by decide +kernel
theorem dX5_writeSamples_33 : decode cX5_writeSamples 33 = .ok (.istore 5, 2) := by decide +kernel
theorem dX5_writeSamples_35 : decode cX5_writeSamples 35 = .ok (.iload_n 1, 1) := by decide +kernel
theorem dX5_writeSamples_36 : decode cX5_writeSamples 36 = .ok (.iconst 3, 1) := by decide +kernel
theorem dX5_writeSamples_37 : decode cX5_writeSamples 37 = .ok (.if_icmp .gt 22, 3) := by decide +kernel
theorem dX5_writeSamples_40 : decode cX5_writeSamples 40 = .ok (.iload 5, 2) := by decide +kernel
theorem dX5_writeSamples_42 : decode cX5_writeSamples 42 = .ok (.iload_n 1, 1) := by decide +kernel
theorem dX5_writeSamples_43 : decode cX5_writeSamples 43 = .ok (.iconst 3, 1) := by decide +kernel
theorem dX5_writeSamples_44 : decode cX5_writeSamples 44 = .ok (.if_icmp .ne 7, 3) := by decide +kernel
theorem dX5_writeSamples_47 : decode cX5_writeSamples 47 = .ok (.iconst 1, 1) := by decide +kernel
theorem dX5_writeSamples_48 : decode cX5_writeSamples 48 = .ok (.goto 4, 3) := by decide +kernel
theorem dX5_writeSamples_51 : decode cX5_writeSamples 51 = .ok (.iconst 0, 1) := by decide +kernel
theorem dX5_writeSamples_52 : decode cX5_writeSamples 52 = .ok (.aload_n 2, 1) := by decide +kernel
theorem dX5_writeSamples_53 : decode cX5_writeSamples 53 = .ok (.invokestatic 147, 3) := by decide +kernel
theorem dX5_writeSamples_56 : decode cX5_writeSamples 56 = .ok (.goto 20, 3) := by decide +kernel
theorem dX5_writeSamples_59 : decode cX5_writeSamples 59 = .ok (.iload 5, 2) := by decide +kernel
theorem dX5_writeSamples_61 : decode cX5_writeSamples 61 = .ok (.iload_n 1, 1) := by decide +kernel
theorem dX5_writeSamples_62 : decode cX5_writeSamples 62 = .ok (.bipush 6, 2) := by decide +kernel
theorem dX5_writeSamples_64 : decode cX5_writeSamples 64 = .ok (.if_icmp .ne 7, 3) := by decide +kernel
theorem dX5_writeSamples_67 : decode cX5_writeSamples 67 = .ok (.iconst 1, 1) := by decide +kernel
theorem dX5_writeSamples_68 : decode cX5_writeSamples 68 = .ok (.goto 4, 3) := by decide +kernel
theorem dX5_writeSamples_71 : decode cX5_writeSamples 71 = .ok (.iconst 0, 1) := by decide +kernel
theorem dX5_writeSamples_72 : decode cX5_writeSamples 72 = .ok (.aload_n 2, 1) := by decide +kernel
theorem dX5_writeSamples_73 : decode cX5_writeSamples 73 = .ok (.invokestatic 151, 3) := by decide +kernel
theorem dX5_writeSamples_76 : decode cX5_writeSamples 76 = .ok (.iinc 4 1, 3) := by decide +kernel
theorem dX5_writeSamples_79 : decode cX5_writeSamples 79 = .ok (.goto (-58), 3) := by decide +kernel
theorem dX5_writeSamples_82 : decode cX5_writeSamples 82 = .ok (.return_, 1) := by decide +kernel
theorem dX5_writeNumbers_0 : decode cX5_writeNumbers 0 = .ok (.aload_n 2, 1) := by decide +kernel
theorem dX5_writeNumbers_1 : decode cX5_writeNumbers 1 = .ok (.iload_n 0, 1) := by decide +kernel
theorem dX5_writeNumbers_2 : decode cX5_writeNumbers 2 = .ok (.invokestatic 154, 3) := by decide +kernel
theorem dX5_writeNumbers_5 : decode cX5_writeNumbers 5 = .ok (.invokevirtual 129, 3) := by decide +kernel
theorem dX5_writeNumbers_8 : decode cX5_writeNumbers 8 = .ok (.iload_n 1, 1) := by decide +kernel
theorem dX5_writeNumbers_9 : decode cX5_writeNumbers 9 = .ok (.ifCond .eq 31, 3) := by decide +kernel
theorem dX5_writeNumbers_12 : decode cX5_writeNumbers 12 = .ok (.aload_n 2, 1) := by decide +kernel
theorem dX5_writeNumbers_13 : decode cX5_writeNumbers 13 = .ok (.bipush 32, 2) := by decide +kernel
theorem dX5_writeNumbers_15 : decode cX5_writeNumbers 15 = .ok (.invokevirtual 124, 3) := by decide +kernel
theorem dX5_writeNumbers_18 : decode cX5_writeNumbers 18 = .ok (.aload_n 2, 1) := by decide +kernel
theorem dX5_writeNumbers_19 : decode cX5_writeNumbers 19 = .ok (.iload_n 0, 1) := by decide +kernel
theorem dX5_writeNumbers_20 : decode cX5_writeNumbers 20 = .ok (.invokestatic 157, 3) := by decide +kernel
theorem dX5_writeNumbers_23 : decode cX5_writeNumbers 23 = .ok (.invokevirtual 129, 3) := by decide +kernel
theorem dX5_writeNumbers_26 : decode cX5_writeNumbers 26 = .ok (.aload_n 2, 1) := by decide +kernel
theorem dX5_writeNumbers_27 : decode cX5_writeNumbers 27 = .ok (.bipush 32, 2) := by decide +kernel
theorem dX5_writeNumbers_29 : decode cX5_writeNumbers 29 = .ok (.invokevirtual 124, 3) := by decide +kernel
theorem dX5_writeNumbers_32 : decode cX5_writeNumbers 32 = .ok (.aload_n 2, 1) := by decide +kernel
theorem dX5_writeNumbers_33 : decode cX5_writeNumbers 33 = .ok (.iload_n 0, 1) := by decide +kernel
theorem dX5_writeNumbers_34 : decode cX5_writeNumbers 34 = .ok (.invokestatic 160, 3) := by decide +kernel
theorem dX5_writeNumbers_37 : decode cX5_writeNumbers 37 = .ok (.invokevirtual 129, 3) := by decide +kernel
theorem dX5_writeNumbers_40 : decode cX5_writeNumbers 40 = .ok (.aload_n 2, 1) := by decide +kernel
theorem dX5_writeNumbers_41 : decode cX5_writeNumbers 41 = .ok (.bipush 10, 2) := by decide +kernel
theorem dX5_writeNumbers_43 : decode cX5_writeNumbers 43 = .ok (.invokevirtual 124, 3) := by decide +kernel
theorem dX5_writeNumbers_46 : decode cX5_writeNumbers 46 = .ok (.return_, 1) := by decide +kernel
theorem dX5_writeBytes_0 : decode cX5_writeBytes 0 = .ok (.aload_n 2, 1) := by decide +kernel
theorem dX5_writeBytes_1 : decode cX5_writeBytes 1 = .ok (.iload_n 0, 1) := by decide +kernel
theorem dX5_writeBytes_2 : decode cX5_writeBytes 2 = .ok (.invokestatic 154, 3) := by decide +kernel
theorem dX5_writeBytes_5 : decode cX5_writeBytes 5 = .ok (.invokevirtual 124, 3) := by decide +kernel
theorem dX5_writeBytes_8 : decode cX5_writeBytes 8 = .ok (.iload_n 1, 1) := by decide +kernel
theorem dX5_writeBytes_9 : decode cX5_writeBytes 9 = .ok (.ifCond .eq 19, 3) := by decide +kernel
theorem dX5_writeBytes_12 : decode cX5_writeBytes 12 = .ok (.aload_n 2, 1) := by decide +kernel
theorem dX5_writeBytes_13 : decode cX5_writeBytes 13 = .ok (.iload_n 0, 1) := by decide +kernel
theorem dX5_writeBytes_14 : decode cX5_writeBytes 14 = .ok (.invokestatic 157, 3) := by decide +kernel
theorem dX5_writeBytes_17 : decode cX5_writeBytes 17 = .ok (.invokevirtual 124, 3) := by decide +kernel
theorem dX5_writeBytes_20 : decode cX5_writeBytes 20 = .ok (.aload_n 2, 1) := by decide +kernel
theorem dX5_writeBytes_21 : decode cX5_writeBytes 21 = .ok (.iload_n 0, 1) := by decide +kernel
theorem dX5_writeBytes_22 : decode cX5_writeBytes 22 = .ok (.invokestatic 160, 3) := by decide +kernel
theorem dX5_writeBytes_25 : decode cX5_writeBytes 25 = .ok (.invokevirtual 124, 3) := by decide +kernel
theorem dX5_writeBytes_28 : decode cX5_writeBytes 28 = .ok (.return_, 1) := by decide +kernel
