theorem dX10_init_0 : decode cX10_init 0 = .ok (.aload_n 0, 1) := by decide +kernel
theorem dX10_init_1 : decode cX10_init 1 = .ok (.invokespecial 1, 3) := by decide +kernel
theorem dX10_init_4 : decode cX10_init 4 = .ok (.aload_n 0, 1) := by decide +kernel
theorem dX10_init_5 : decode cX10_init 5 = .ok (.iconst 4, 1) := by decide +kernel
theorem dX10_init_6 : decode cX10_init 6 = .ok (.anewarray 9, 3) := by decide +kernel
theorem dX10_init_9 : decode cX10_init 9 = .ok (.putfield 11, 3) := by decide +kernel
theorem dX10_init_12 : decode cX10_init 12 = .ok (.iconst 0, 1) := by decide +kernel
theorem dX10_init_13 : decode cX10_init 13 = .ok (.istore_n 1, 1) := by decide +kernel
theorem dX10_init_14 : decode cX10_init 14 = .ok (.iload_n 1, 1) := by decide +kernel
theorem dX10_init_15 : decode cX10_init 15 = .ok (.iconst 4, 1) := by decide +kernel
theorem dX10_init_16 : decode cX10_init 16 = .ok (.if_icmp .ge 22, 3) := by decide +kernel
theorem dX10_init_19 : decode cX10_init 19 = .ok (.aload_n 0, 1) := by decide +kernel
theorem dX10_init_20 : decode cX10_init 20 = .ok (.getfield 11, 3) := by decide +kernel
theorem dX10_init_23 : decode cX10_init 23 = .ok (.iload_n 1, 1) := by decide +kernel
theorem dX10_init_24 : decode cX10_init 24 = .ok (.new 9, 3) := by decide +kernel
theorem dX10_init_27 : decode cX10_init 27 = .ok (.dup, 1) := by decide +kernel
theorem dX10_init_28 : decode cX10_init 28 = .ok (.invokespecial 15, 3) := by decide +kernel
theorem dX10_init_31 : decode cX10_init 31 = .ok (.aastore, 1) := by decide +kernel
theorem dX10_init_32 : decode cX10_init 32 = .ok (.iinc 1 1, 3) := by decide +kernel
theorem dX10_init_35 : decode cX10_init 35 = .ok (.goto (-21), 3) := by decide +kernel
theorem dX10_init_38 : decode cX10_init 38 = .ok (.aload_n 0, 1) := by decide +kernel
theorem dX10_init_39 : decode cX10_init 39 = .ok (.new 9, 3) := by decide +kernel
theorem dX10_init_42 : decode cX10_init 42 = .ok (.dup, 1) := by decide +kernel
theorem dX10_init_43 : decode cX10_init 43 = .ok (.invokespecial 15, 3) := by decide +kernel
theorem dX10_init_46 : decode cX10_init 46 = .ok (.putfield 16, 3) := by decide +kernel
theorem dX10_init_49 : decode cX10_init 49 = .ok (.aload_n 0, 1) := by decide +kernel
theorem dX10_init_50 : decode cX10_init 50 = .ok (.new 20, 3) := by decide +kernel
theorem dX10_init_53 : decode cX10_init 53 = .ok (.dup, 1) := by decide +kernel
theorem dX10_init_54 : decode cX10_init 54 = .ok (.invokespecial 22, 3) := by decide +kernel
theorem dX10_init_57 : decode cX10_init 57 = .ok (.putfield 23, 3) := by decide +kernel
theorem dX10_init_60 : decode cX10_init 60 = .ok (.aload_n 0, 1) := by decide +kernel
theorem dX10_init_61 : decode cX10_init 61 = .ok (.new 20, 3) := by decide +kernel
theorem dX10_init_64 : decode cX10_init 64 = .ok (.dup, 1) := by decide +kernel
theorem dX10_init_65 : decode cX10_init 65 = .ok (.invokespecial 22, 3) := by decide +kernel
theorem dX10_init_68 : decode cX10_init 68 = .ok (.putfield 27, 3) := by decide +kernel
theorem dX10_init_71 : decode cX10_init 71 = .ok (.aload_n 0, 1) := by decide +kernel
theorem dX10_init_72 : decode cX10_init 72 = .ok (.new 30, 3) := by decide +kernel
theorem dX10_init_75 : decode cX10_init 75 = .ok (.dup, 1) := by decide +kernel
theorem dX10_init_76 : decode cX10_init 76 = .ok (.aload_n 0, 1) := by decide +kernel
theorem dX10_init_77 : decode cX10_init 77 = .ok (.getfield 23, 3) := by decide +kernel
theorem dX10_init_80 : decode cX10_init 80 = .ok (.invokespecial 32, 3) := by decide +kernel
theorem dX10_init_83 : decode cX10_init 83 = .ok (.putfield 35, 3) := by decide +kernel
theorem dX10_init_86 : decode cX10_init 86 = .ok (.aload_n 0, 1) := by decide +kernel
theorem dX10_init_87 : decode cX10_init 87 = .ok (.new 39, 3) := by decide +kernel
theorem dX10_init_90 : decode cX10_init 90 = .ok (.dup, 1) := by decide +kernel
theorem dX10_init_91 : decode cX10_init 91 = .ok (.invokespecial 41, 3) := by decide +kernel
theorem dX10_init_94 : decode cX10_init 94 = .ok (.putfield 42, 3) := by decide +kernel
theorem dX10_init_97 : decode cX10_init 97 = .ok (.aload_n 0, 1) := by decide +kernel
theorem dX10_init_98 : decode cX10_init 98 = .ok (.iconst 5, 1) := by decide +kernel
theorem dX10_init_99 : decode cX10_init 99 = .ok (.anewarray 46, 3) := by decide +kernel
theorem dX10_init_102 : decode cX10_init 102 = .ok (.putfield 48, 3) := by decide +kernel
theorem dX10_init_105 : decode cX10_init 105 = .ok (.aload_n 0, 1) := by decide +kernel
theorem dX10_init_106 : decode cX10_init 106 = .ok (.getfield 48, 3) := by decide +kernel
theorem dX10_init_109 : decode cX10_init 109 = .ok (.iconst 0, 1) := by decide +kernel
theorem dX10_init_110 : decode cX10_init 110 = .ok (.new 52, 3) := by decide +kernel
theorem dX10_init_113 : decode cX10_init 113 = .ok (.dup, 1) := by decide +kernel
theorem dX10_init_114 : decode cX10_init 114 = .ok (.invokespecial 54, 3) := by decide +kernel
theorem dX10_init_117 : decode cX10_init 117 = .ok (.aastore, 1) := by decide +kernel
theorem dX10_init_118 : decode cX10_init 118 = .ok (.aload_n 0, 1) := by decide +kernel
theorem dX10_init_119 : decode cX10_init 119 = .ok (.getfield 48, 3) := by decide +kernel
theorem dX10_init_122 : decode cX10_init 122 = .ok (.iconst 1, 1) := by decide +kernel
theorem dX10_init_123 : decode cX10_init 123 = .ok (.new 55, 3) := by decide +kernel
theorem dX10_init_126 : decode cX10_init 126 = .ok (.dup, 1) := by decide +kernel
theorem dX10_init_127 : decode cX10_init 127 = .ok (.invokespecial 57, 3) := by decide +kernel
theorem dX10_init_130 : decode cX10_init 130 = .ok (.aastore, 1) := by decide +kernel
theorem dX10_init_131 : decode cX10_init 131 = .ok (.aload_n 0, 1) := by decide +kernel
theorem dX10_init_132 : decode cX10_init 132 = .ok (.getfield 48, 3) := by decide +kernel
theorem dX10_init_135 : decode cX10_init 135 = .ok (.iconst 2, 1) := by decide +kernel
theorem dX10_init_136 : decode cX10_init 136 = .ok (.new 58, 3) := by decide +kernel
theorem dX10_init_139 : decode cX10_init 139 = .ok (.dup, 1) := by decide +kernel
theorem dX10_init_140 : decode cX10_init 140 = .ok (.aload_n 0, 1) := by decide +kernel
theorem dX10_init_141 : decode cX10_init 141 = .ok (.getfield 42, 3) := by decide +kernel
theorem dX10_init_144 : decode cX10_init 144 = .ok (.invokespecial 60, 3) := by decide +kernel
theorem dX10_init_147 : decode cX10_init 147 = .ok (.aastore, 1) := by decide +kernel
theorem dX10_init_148 : decode cX10_init 148 = .ok (.aload_n 0, 1) := by decide +kernel
theorem dX10_init_149 : decode cX10_init 149 = .ok (.getfield 48, 3) := by decide +kernel
theorem dX10_init_152 : decode cX10_init 152 = .ok (.iconst 3, 1) := by decide +kernel
theorem dX10_init_153 : decode cX10_init 153 = .ok (.new 63, 3) := by decide +kernel
theorem dX10_init_156 : decode cX10_init 156 = .ok (.dup, 1) := by decide +kernel
theorem dX10_init_157 : decode cX10_init 157 = .ok (.aload_n 0, 1) := by decide +kernel
theorem dX10_init_158 : decode cX10_init 158 = .ok (.getfield 42, 3) := by decide +kernel
theorem dX10_init_161 : decode cX10_init 161 = .ok (.invokespecial 65, 3) := by decide +kernel
theorem dX10_init_164 : decode cX10_init 164 = .ok (.aastore, 1) := by decide +kernel
theorem dX10_init_165 : decode cX10_init 165 = .ok (.aload_n 0, 1) := by decide +kernel
theorem dX10_init_166 : decode cX10_init 166 = .ok (.getfield 48, 3) := by decide +kernel
theorem dX10_init_169 : decode cX10_init 169 = .ok (.iconst 4, 1) := by decide +kernel
theorem dX10_init_170 : decode cX10_init 170 = .ok (.new 66, 3) := by decide +kernel
theorem dX10_init_173 : decode cX10_init 173 = .ok (.dup, 1) := by decide +kernel
theorem dX10_init_174 : decode cX10_init 174 = .ok (.aload_n 0, 1) := by decide +kernel
theorem dX10_init_175 : decode cX10_init 175 = .ok (.getfield 42, 3) := by decide +kernel
theorem dX10_init_178 : decode cX10_init 178 = .ok (.invokespecial 68, 3) := by decide +kernel
theorem dX10_init_181 : decode cX10_init 181 = .ok (.aastore, 1) := by decide +kernel
theorem dX10_init_182 : decode cX10_init 182 = .ok (.aload_n 0, 1) := by decide +kernel
theorem dX10_init_183 : decode cX10_init 183 = .ok (.iconst 4, 1) := by decide +kernel
theorem dX10_init_184 : decode cX10_init 184 = .ok (.newarray .int, 2) := by decide +kernel
theorem dX10_init_186 : decode cX10_init 186 = .ok (.putfield 69, 3) := by decide +kernel
theorem dX10_init_189 : decode cX10_init 189 = .ok (.aload_n 0, 1) := by decide +kernel
theorem dX10_init_190 : decode cX10_init 190 = .ok (.getfield 69, 3) := by decide +kernel
theorem dX10_init_193 : decode cX10_init 193 = .ok (.iconst (-1), 1) := by decide +kernel
theorem dX10_init_194 : decode cX10_init 194 = .ok (.invokestatic 73, 3) := by decide +kernel
theorem dX10_init_197 : decode cX10_init 197 = .ok (.aload_n 0, 1) := by decide +kernel
theorem dX10_init_198 : decode cX10_init 198 = .ok (.iconst (-1), 1) := by decide +kernel
theorem dX10_init_199 : decode cX10_init 199 = .ok (.putfield 79, 3) := by decide +kernel
theorem dX10_init_202 : decode cX10_init 202 = .ok (.return_, 1) := by decide +kernel
theorem dX10_feed_0 : decode cX10_feed 0 = .ok (.aload_n 0, 1) := by decide +kernel
theorem dX10_feed_1 : decode cX10_feed 1 = .ok (.getfield 23, 3) := by decide +kernel
theorem dX10_feed_4 : decode cX10_feed 4 = .ok (.getfield 83, 3) := by decide +kernel
theorem dX10_feed_7 : decode cX10_feed 7 = .ok (.ldc 86, 2) := by decide +kernel
theorem dX10_feed_9 : decode cX10_feed 9 = .ok (.if_icmp .le 5, 3) := by decide +kernel
theorem dX10_feed_12 : decode cX10_feed 12 = .ok (.iconst (-1), 1) := by decide +kernel
theorem dX10_feed_13 : decode cX10_feed 13 = .ok (.ireturn, 1) := by decide +kernel
theorem dX10_feed_14 : decode cX10_feed 14 = .ok (.aload_n 0, 1) := by decide +kernel
theorem dX10_feed_15 : decode cX10_feed 15 = .ok (.getfield 23, 3) := by decide +kernel
theorem dX10_feed_18 : decode cX10_feed 18 = .ok (.iload_n 1, 1) := by decide +kernel
theorem dX10_feed_19 : decode cX10_feed 19 = .ok (.invokevirtual 87, 3) := by decide +kernel
theorem dX10_feed_22 : decode cX10_feed 22 = .ok (.aload_n 0, 1) := by decide +kernel
theorem dX10_feed_23 : decode cX10_feed 23 = .ok (.getfield 23, 3) := by decide +kernel
theorem dX10_feed_26 : decode cX10_feed 26 = .ok (.iload_n 2, 1) := by decide +kernel
theorem dX10_feed_27 : decode cX10_feed 27 = .ok (.invokevirtual 87, 3) := by decide +kernel
theorem dX10_feed_30 : decode cX10_feed 30 = .ok (.aload_n 0, 1) := by decide +kernel
theorem dX10_feed_31 : decode cX10_feed 31 = .ok (.getfield 23, 3) := by decide +kernel
theorem dX10_feed_34 : decode cX10_feed 34 = .ok (.iload_n 3, 1) := by decide +kernel
theorem dX10_feed_35 : decode cX10_feed 35 = .ok (.invokevirtual 87, 3) := by decide +kernel
theorem dX10_feed_38 : decode cX10_feed 38 = .ok (.aload_n 0, 1) := by decide +kernel
theorem dX10_feed_39 : decode cX10_feed 39 = .ok (.getfield 23, 3) := by decide +kernel
theorem dX10_feed_42 : decode cX10_feed 42 = .ok (.iload 4, 2) := by decide +kernel
theorem dX10_feed_44 : decode cX10_feed 44 = .ok (.invokevirtual 87, 3) := by decide +kernel
theorem dX10_feed_47 : decode cX10_feed 47 = .ok (.aload_n 0, 1) := by decide +kernel
theorem dX10_feed_48 : decode cX10_feed 48 = .ok (.getfield 23, 3) := by decide +kernel
theorem dX10_feed_51 : decode cX10_feed 51 = .ok (.iload 5, 2) := by decide +kernel
theorem dX10_feed_53 : decode cX10_feed 53 = .ok (.invokevirtual 87, 3) := by decide +kernel
theorem dX10_feed_56 : decode cX10_feed 56 = .ok (.aload_n 0, 1) := by decide +kernel
theorem dX10_feed_57 : decode cX10_feed 57 = .ok (.getfield 23, 3) := by decide +kernel
theorem dX10_feed_60 : decode cX10_feed 60 = .ok (.getfield 83, 3) := by decide +kernel
theorem dX10_feed_63 : decode cX10_feed 63 = .ok (.ireturn, 1) := by decide +kernel
theorem dX10_end_0 : decode cX10_end 0 = .ok (.iload_n 1, 1) := by decide +kernel
theorem dX10_end_1 : decode cX10_end 1 = .ok (.ifCond .lt 14, 3) := by decide +kernel
theorem dX10_end_4 : decode cX10_end 4 = .ok (.iload_n 1, 1) := by decide +kernel
theorem dX10_end_5 : decode cX10_end 5 = .ok (.aload_n 0, 1) := by decide +kernel
theorem dX10_end_6 : decode cX10_end 6 = .ok (.getfield 23, 3) := by decide +kernel
theorem dX10_end_9 : decode cX10_end 9 = .ok (.getfield 83, 3) := by decide +kernel
theorem dX10_end_12 : decode cX10_end 12 = .ok (.if_icmp .le 5, 3) := by decide +kernel
theorem dX10_end_15 : decode cX10_end 15 = .ok (.iconst 0, 1) := by decide +kernel
theorem dX10_end_16 : decode cX10_end 16 = .ok (.ireturn, 1) := by decide +kernel
theorem dX10_end_17 : decode cX10_end 17 = .ok (.aload_n 0, 1) := by decide +kernel
theorem dX10_end_18 : decode cX10_end 18 = .ok (.getfield 23, 3) := by decide +kernel
theorem dX10_end_21 : decode cX10_end 21 = .ok (.iload_n 1, 1) := by decide +kernel
theorem dX10_end_22 : decode cX10_end 22 = .ok (.putfield 83, 3) := by decide +kernel
theorem dX10_end_25 : decode cX10_end 25 = .ok (.iconst 1, 1) := by decide +kernel
theorem dX10_end_26 : decode cX10_end 26 = .ok (.ireturn, 1) := by decide +kernel
theorem dX10_again_0 : decode cX10_again 0 = .ok (.aload_n 0, 1) := by decide +kernel
theorem dX10_again_1 : decode cX10_again 1 = .ok (.getfield 27, 3) := by decide +kernel
theorem dX10_again_4 : decode cX10_again 4 = .ok (.getfield 83, 3) := by decide +kernel
theorem dX10_again_7 : decode cX10_again 7 = .ok (.ifCond .ne 5, 3) := by decide +kernel
theorem dX10_again_10 : decode cX10_again 10 = .ok (.iconst (-1), 1) := by decide +kernel
theorem dX10_again_11 : decode cX10_again 11 = .ok (.ireturn, 1) := by decide +kernel
theorem dX10_again_12 : decode cX10_again 12 = .ok (.aload_n 0, 1) := by decide +kernel
theorem dX10_again_13 : decode cX10_again 13 = .ok (.getfield 23, 3) := by decide +kernel
theorem dX10_again_16 : decode cX10_again 16 = .ok (.aload_n 0, 1) := by decide +kernel
theorem dX10_again_17 : decode cX10_again 17 = .ok (.getfield 27, 3) := by decide +kernel
theorem dX10_again_20 : decode cX10_again 20 = .ok (.invokevirtual 91, 3) := by decide +kernel
theorem dX10_again_23 : decode cX10_again 23 = .ok (.aload_n 0, 1) := by decide +kernel
theorem dX10_again_24 : decode cX10_again 24 = .ok (.getfield 23, 3) := by decide +kernel
theorem dX10_again_27 : decode cX10_again 27 = .ok (.getfield 83, 3) := by decide +kernel
theorem dX10_again_30 : decode cX10_again 30 = .ok (.ireturn, 1) := by decide +kernel
theorem dX10_read_0 : decode cX10_read 0 = .ok (.iload_n 2, 1) := by decide +kernel
theorem dX10_read_1 : decode cX10_read 1 = .ok (.invokestatic 94, 3) := by decide +kernel
theorem dX10_read_4 : decode cX10_read 4 = .ok (.ifCond .ne 13, 3) := by decide +kernel
theorem dX10_read_7 : decode cX10_read 7 = .ok (.new 98, 3) := by decide +kernel
theorem dX10_read_10 : decode cX10_read 10 = .ok (.dup, 1) := by decide +kernel
theorem dX10_read_11 : decode cX10_read 11 = .ok (.ldc 100, 2) := by decide +kernel
theorem dX10_read_13 : decode cX10_read 13 = .ok (.invokespecial 102, 3) := by decide +kernel
theorem dX10_read_16 : decode cX10_read 16 = .ok (.athrow, 1) := by decide +kernel
theorem dX10_read_17 : decode cX10_read 17 = .ok (.iload_n 1, 1) := by decide +kernel
theorem dX10_read_18 : decode cX10_read 18 = .ok (.ifCond .lt 8, 3) := by decide +kernel
theorem dX10_read_21 : decode cX10_read 21 = .ok (.iload_n 1, 1) := by decide +kernel
theorem dX10_read_22 : decode cX10_read 22 = .ok (.iconst 5, 1) := by decide +kernel
theorem dX10_read_23 : decode cX10_read 23 = .ok (.if_icmp .lt 13, 3) := by decide +kernel
theorem dX10_read_26 : decode cX10_read 26 = .ok (.new 105, 3) := by decide +kernel
theorem dX10_read_29 : decode cX10_read 29 = .ok (.dup, 1) := by decide +kernel
theorem dX10_read_30 : decode cX10_read 30 = .ok (.ldc 107, 2) := by decide +kernel
theorem dX10_read_32 : decode cX10_read 32 = .ok (.invokespecial 109, 3) := by decide +kernel
theorem dX10_read_35 : decode cX10_read 35 = .ok (.athrow, 1) := by decide +kernel
theorem dX10_read_36 : decode cX10_read 36 = .ok (.aload_n 0, 1) := by decide +kernel
theorem dX10_read_37 : decode cX10_read 37 = .ok (.aload_n 0, 1) := by decide +kernel
theorem dX10_read_38 : decode cX10_read 38 = .ok (.getfield 23, 3) := by decide +kernel
theorem dX10_read_41 : decode cX10_read 41 = .ok (.iload_n 1, 1) := by decide +kernel
theorem dX10_read_42 : decode cX10_read 42 = .ok (.iload_n 2, 1) := by decide +kernel
theorem dX10_read_43 : decode cX10_read 43 = .ok (.invokevirtual 110, 3) := by decide +kernel
theorem dX10_read_46 : decode cX10_read 46 = .ok (.istore_n 3, 1) := by decide +kernel
theorem dX10_read_47 : decode cX10_read 47 = .ok (.aload_n 0, 1) := by decide +kernel
theorem dX10_read_48 : decode cX10_read 48 = .ok (.iload_n 3, 1) := by decide +kernel
theorem dX10_read_49 : decode cX10_read 49 = .ok (.ifCond .ne 7, 3) := by decide +kernel
theorem dX10_read_52 : decode cX10_read 52 = .ok (.iconst (-1), 1) := by decide +kernel
theorem dX10_read_53 : decode cX10_read 53 = .ok (.goto 10, 3) := by decide +kernel
theorem dX10_read_56 : decode cX10_read 56 = .ok (.aload_n 0, 1) := by decide +kernel
theorem dX10_read_57 : decode cX10_read 57 = .ok (.getfield 35, 3) := by decide +kernel
theorem dX10_read_60 : decode cX10_read 60 = .ok (.getfield 114, 3) := by decide +kernel
theorem dX10_read_63 : decode cX10_read 63 = .ok (.putfield 79, 3) := by decide +kernel
theorem dX10_read_66 : decode cX10_read 66 = .ok (.aload_n 0, 1) := by decide +kernel
theorem dX10_read_67 : decode cX10_read 67 = .ok (.getfield 23, 3) := by decide +kernel
theorem dX10_read_70 : decode cX10_read 70 = .ok (.iconst 0, 1) := by decide +kernel
theorem dX10_read_71 : decode cX10_read 71 = .ok (.putfield 83, 3) := by decide +kernel
theorem dX10_read_74 : decode cX10_read 74 = .ok (.iload_n 3, 1) := by decide +kernel
theorem dX10_read_75 : decode cX10_read 75 = .ok (.ireturn, 1) := by decide +kernel
theorem dX10_place_0 : decode cX10_place 0 = .ok (.aload_n 0, 1) := by decide +kernel
theorem dX10_place_1 : decode cX10_place 1 = .ok (.getfield 79, 3) := by decide +kernel
theorem dX10_place_4 : decode cX10_place 4 = .ok (.ireturn, 1) := by decide +kernel
theorem dX10_told_0 : decode cX10_told 0 = .ok (.iload_n 1, 1) := by decide +kernel
theorem dX10_told_1 : decode cX10_told 1 = .ok (.ifCond .lt 21, 3) := by decide +kernel
theorem dX10_told_4 : decode cX10_told 4 = .ok (.iload_n 1, 1) := by decide +kernel
theorem dX10_told_5 : decode cX10_told 5 = .ok (.aload_n 0, 1) := by decide +kernel
theorem dX10_told_6 : decode cX10_told 6 = .ok (.getfield 69, 3) := by decide +kernel
theorem dX10_told_9 : decode cX10_told 9 = .ok (.arraylength, 1) := by decide +kernel
theorem dX10_told_10 : decode cX10_told 10 = .ok (.if_icmp .ge 12, 3) := by decide +kernel
theorem dX10_told_13 : decode cX10_told 13 = .ok (.aload_n 0, 1) := by decide +kernel
theorem dX10_told_14 : decode cX10_told 14 = .ok (.getfield 69, 3) := by decide +kernel
theorem dX10_told_17 : decode cX10_told 17 = .ok (.iload_n 1, 1) := by decide +kernel
theorem dX10_told_18 : decode cX10_told 18 = .ok (.iaload, 1) := by decide +kernel
theorem dX10_told_19 : decode cX10_told 19 = .ok (.goto 4, 3) := by decide +kernel
theorem dX10_told_22 : decode cX10_told 22 = .ok (.iconst (-1), 1) := by decide +kernel
theorem dX10_told_23 : decode cX10_told 23 = .ok (.ireturn, 1) := by decide +kernel
theorem dX10_write_0 : decode cX10_write 0 = .ok (.aload_n 0, 1) := by decide +kernel
theorem dX10_write_1 : decode cX10_write 1 = .ok (.iload_n 1, 1) := by decide +kernel
theorem dX10_write_2 : decode cX10_write 2 = .ok (.invokevirtual 115, 3) := by decide +kernel
theorem dX10_write_5 : decode cX10_write 5 = .ok (.ifCond .eq 11, 3) := by decide +kernel
theorem dX10_write_8 : decode cX10_write 8 = .ok (.iload_n 2, 1) := by decide +kernel
theorem dX10_write_9 : decode cX10_write 9 = .ok (.invokestatic 118, 3) := by decide +kernel
theorem dX10_write_12 : decode cX10_write 12 = .ok (.iconst (-1), 1) := by decide +kernel
theorem dX10_write_13 : decode cX10_write 13 = .ok (.if_icmp .ne 6, 3) := by decide +kernel
theorem dX10_write_16 : decode cX10_write 16 = .ok (.bipush (-2), 2) := by decide +kernel
theorem dX10_write_18 : decode cX10_write 18 = .ok (.ireturn, 1) := by decide +kernel
theorem dX10_write_19 : decode cX10_write 19 = .ok (.aload_n 0, 1) := by decide +kernel
theorem dX10_write_20 : decode cX10_write 20 = .ok (.aload_n 0, 1) := by decide +kernel
theorem dX10_write_21 : decode cX10_write 21 = .ok (.getfield 11, 3) := by decide +kernel
theorem dX10_write_24 : decode cX10_write 24 = .ok (.iload_n 1, 1) := by decide +kernel
theorem dX10_write_25 : decode cX10_write 25 = .ok (.aaload, 1) := by decide +kernel
theorem dX10_write_26 : decode cX10_write 26 = .ok (.iload_n 2, 1) := by decide +kernel
theorem dX10_write_27 : decode cX10_write 27 = .ok (.invokevirtual 122, 3) := by decide +kernel
theorem dX10_write_30 : decode cX10_write 30 = .ok (.ifCond .eq 13, 3) := by decide +kernel
theorem dX10_write_33 : decode cX10_write 33 = .ok (.aload_n 0, 1) := by decide +kernel
theorem dX10_write_34 : decode cX10_write 34 = .ok (.getfield 27, 3) := by decide +kernel
theorem dX10_write_37 : decode cX10_write 37 = .ok (.getfield 83, 3) := by decide +kernel
theorem dX10_write_40 : decode cX10_write 40 = .ok (.goto 4, 3) := by decide +kernel
theorem dX10_write_43 : decode cX10_write 43 = .ok (.iconst (-1), 1) := by decide +kernel
theorem dX10_write_44 : decode cX10_write 44 = .ok (.ireturn, 1) := by decide +kernel
theorem dX10_byteAt_0 : decode cX10_byteAt 0 = .ok (.aload_n 0, 1) := by decide +kernel
theorem dX10_byteAt_1 : decode cX10_byteAt 1 = .ok (.getfield 27, 3) := by decide +kernel
theorem dX10_byteAt_4 : decode cX10_byteAt 4 = .ok (.iload_n 1, 1) := by decide +kernel
theorem dX10_byteAt_5 : decode cX10_byteAt 5 = .ok (.invokevirtual 126, 3) := by decide +kernel
theorem dX10_byteAt_8 : decode cX10_byteAt 8 = .ok (.ireturn, 1) := by decide +kernel
theorem dX10_bytes_0 : decode cX10_bytes 0 = .ok (.iload_n 1, 1) := by decide +kernel
theorem dX10_bytes_1 : decode cX10_bytes 1 = .ok (.ifCond .lt 14, 3) := by decide +kernel
theorem dX10_bytes_4 : decode cX10_bytes 4 = .ok (.iload_n 1, 1) := by decide +kernel
theorem dX10_bytes_5 : decode cX10_bytes 5 = .ok (.aload_n 0, 1) := by decide +kernel
theorem dX10_bytes_6 : decode cX10_bytes 6 = .ok (.getfield 27, 3) := by decide +kernel
theorem dX10_bytes_9 : decode cX10_bytes 9 = .ok (.getfield 83, 3) := by decide +kernel
theorem dX10_bytes_12 : decode cX10_bytes 12 = .ok (.if_icmp .lt 13, 3) := by decide +kernel
theorem dX10_bytes_15 : decode cX10_bytes 15 = .ok (.new 105, 3) := by decide +kernel
theorem dX10_bytes_18 : decode cX10_bytes 18 = .ok (.dup, 1) := by decide +kernel
theorem dX10_bytes_19 : decode cX10_bytes 19 = .ok (.ldc 129, 2) := by decide +kernel
theorem dX10_bytes_21 : decode cX10_bytes 21 = .ok (.invokespecial 109, 3) := by decide +kernel
theorem dX10_bytes_24 : decode cX10_bytes 24 = .ok (.athrow, 1) := by decide +kernel
theorem dX10_bytes_25 : decode cX10_bytes 25 = .ok (.lconst 0, 1) := by decide +kernel
theorem dX10_bytes_26 : decode cX10_bytes 26 = .ok (.lstore_n 2, 1) := by decide +kernel
theorem dX10_bytes_27 : decode cX10_bytes 27 = .ok (.iconst 0, 1) := by decide +kernel
theorem dX10_bytes_28 : decode cX10_bytes 28 = .ok (.istore 4, 2) := by decide +kernel
theorem dX10_bytes_30 : decode cX10_bytes 30 = .ok (.iload 4, 2) := by decide +kernel
theorem dX10_bytes_32 : decode cX10_bytes 32 = .ok (.bipush 8, 2) := by decide +kernel
theorem dX10_bytes_34 : decode cX10_bytes 34 = .ok (.if_icmp .ge 41, 3) := by decide +kernel
theorem dX10_bytes_37 : decode cX10_bytes 37 = .ok (.aload_n 0, 1) := by decide +kernel
theorem dX10_bytes_38 : decode cX10_bytes 38 = .ok (.getfield 27, 3) := by decide +kernel
theorem dX10_bytes_41 : decode cX10_bytes 41 = .ok (.iload_n 1, 1) := by decide +kernel
theorem dX10_bytes_42 : decode cX10_bytes 42 = .ok (.iload 4, 2) := by decide +kernel
theorem dX10_bytes_44 : decode cX10_bytes 44 = .ok (.iadd, 1) := by decide +kernel
theorem dX10_bytes_45 : decode cX10_bytes 45 = .ok (.invokevirtual 126, 3) := by decide +kernel
theorem dX10_bytes_48 : decode cX10_bytes 48 = .ok (.istore 5, 2) := by decide +kernel
theorem dX10_bytes_50 : decode cX10_bytes 50 = .ok (.lload_n 2, 1) := by decide +kernel
theorem dX10_bytes_51 : decode cX10_bytes 51 = .ok (.bipush 8, 2) := by decide +kernel
theorem dX10_bytes_53 : decode cX10_bytes 53 = .ok (.lshl, 1) := by decide +kernel
theorem dX10_bytes_54 : decode cX10_bytes 54 = .ok (.iload 5, 2) := by decide +kernel
theorem dX10_bytes_56 : decode cX10_bytes 56 = .ok (.iconst (-1), 1) := by decide +kernel
theorem dX10_bytes_57 : decode cX10_bytes 57 = .ok (.if_icmp .ne 7, 3) := by decide +kernel
theorem dX10_bytes_60 : decode cX10_bytes 60 = .ok (.iconst 0, 1) := by decide +kernel
theorem dX10_bytes_61 : decode cX10_bytes 61 = .ok (.goto 5, 3) := by decide +kernel
theorem dX10_bytes_64 : decode cX10_bytes 64 = .ok (.iload 5, 2) := by decide +kernel
theorem dX10_bytes_66 : decode cX10_bytes 66 = .ok (.i2l, 1) := by decide +kernel
theorem dX10_bytes_67 : decode cX10_bytes 67 = .ok (.lor, 1) := by decide +kernel
theorem dX10_bytes_68 : decode cX10_bytes 68 = .ok (.lstore_n 2, 1) := by decide +kernel
theorem dX10_bytes_69 : decode cX10_bytes 69 = .ok (.iinc 4 1, 3) := by decide +kernel
theorem dX10_bytes_72 : decode cX10_bytes 72 = .ok (.goto (-42), 3) := by decide +kernel
theorem dX10_bytes_75 : decode cX10_bytes 75 = .ok (.lload_n 2, 1) := by decide +kernel
theorem dX10_bytes_76 : decode cX10_bytes 76 = .ok (.lreturn, 1) := by decide +kernel
theorem dX10_make_0 : decode cX10_make 0 = .ok (.iload_n 1, 1) := by decide +kernel
theorem dX10_make_1 : decode cX10_make 1 = .ok (.invokestatic 94, 3) := by decide +kernel
theorem dX10_make_4 : decode cX10_make 4 = .ok (.ifCond .eq 23, 3) := by decide +kernel
theorem dX10_make_7 : decode cX10_make 7 = .ok (.iload_n 2, 1) := by decide +kernel
theorem dX10_make_8 : decode cX10_make 8 = .ok (.iconst 1, 1) := by decide +kernel
theorem dX10_make_9 : decode cX10_make 9 = .ok (.if_icmp .lt 18, 3) := by decide +kernel
theorem dX10_make_12 : decode cX10_make 12 = .ok (.iload_n 3, 1) := by decide +kernel
theorem dX10_make_13 : decode cX10_make 13 = .ok (.iconst 1, 1) := by decide +kernel
theorem dX10_make_14 : decode cX10_make 14 = .ok (.if_icmp .lt 13, 3) := by decide +kernel
theorem dX10_make_17 : decode cX10_make 17 = .ok (.iload_n 2, 1) := by decide +kernel
theorem dX10_make_18 : decode cX10_make 18 = .ok (.i2l, 1) := by decide +kernel
theorem dX10_make_19 : decode cX10_make 19 = .ok (.iload_n 3, 1) := by decide +kernel
theorem dX10_make_20 : decode cX10_make 20 = .ok (.i2l, 1) := by decide +kernel
theorem dX10_make_21 : decode cX10_make 21 = .ok (.invokestatic 131, 3) := by decide +kernel
theorem dX10_make_24 : decode cX10_make 24 = .ok (.ifCond .eq 5, 3) := by decide +kernel
theorem dX10_make_27 : decode cX10_make 27 = .ok (.iconst 0, 1) := by decide +kernel
theorem dX10_make_28 : decode cX10_make 28 = .ok (.ireturn, 1) := by decide +kernel
theorem dX10_make_29 : decode cX10_make 29 = .ok (.aload_n 0, 1) := by decide +kernel
theorem dX10_make_30 : decode cX10_make 30 = .ok (.getfield 11, 3) := by decide +kernel
theorem dX10_make_33 : decode cX10_make 33 = .ok (.iload_n 1, 1) := by decide +kernel
theorem dX10_make_34 : decode cX10_make 34 = .ok (.aaload, 1) := by decide +kernel
theorem dX10_make_35 : decode cX10_make 35 = .ok (.astore 5, 2) := by decide +kernel
theorem dX10_make_37 : decode cX10_make 37 = .ok (.aload 5, 2) := by decide +kernel
theorem dX10_make_39 : decode cX10_make 39 = .ok (.iload_n 2, 1) := by decide +kernel
theorem dX10_make_40 : decode cX10_make 40 = .ok (.putfield 135, 3) := by decide +kernel
theorem dX10_make_43 : decode cX10_make 43 = .ok (.aload 5, 2) := by decide +kernel
theorem dX10_make_45 : decode cX10_make 45 = .ok (.iload_n 3, 1) := by decide +kernel
theorem dX10_make_46 : decode cX10_make 46 = .ok (.putfield 138, 3) := by decide +kernel
theorem dX10_make_49 : decode cX10_make 49 = .ok (.aload 5, 2) := by decide +kernel
theorem dX10_make_51 : decode cX10_make 51 = .ok (.iload 4, 2) := by decide +kernel
theorem dX10_make_53 : decode cX10_make 53 = .ok (.invokevirtual 141, 3) := by decide +kernel
theorem dX10_make_56 : decode cX10_make 56 = .ok (.iconst 1, 1) := by decide +kernel
theorem dX10_make_57 : decode cX10_make 57 = .ok (.ireturn, 1) := by decide +kernel
theorem dX10_dot_0 : decode cX10_dot 0 = .ok (.aload_n 0, 1) := by decide +kernel
theorem dX10_dot_1 : decode cX10_dot 1 = .ok (.iload_n 1, 1) := by decide +kernel
theorem dX10_dot_2 : decode cX10_dot 2 = .ok (.iload_n 2, 1) := by decide +kernel
theorem dX10_dot_3 : decode cX10_dot 3 = .ok (.iload_n 3, 1) := by decide +kernel
theorem dX10_dot_4 : decode cX10_dot 4 = .ok (.invokevirtual 143, 3) := by decide +kernel
theorem dX10_dot_7 : decode cX10_dot 7 = .ok (.istore 5, 2) := by decide +kernel
theorem dX10_dot_9 : decode cX10_dot 9 = .ok (.aload_n 0, 1) := by decide +kernel
theorem dX10_dot_10 : decode cX10_dot 10 = .ok (.getfield 11, 3) := by decide +kernel
theorem dX10_dot_13 : decode cX10_dot 13 = .ok (.iload_n 1, 1) := by decide +kernel
theorem dX10_dot_14 : decode cX10_dot 14 = .ok (.aaload, 1) := by decide +kernel
theorem dX10_dot_15 : decode cX10_dot 15 = .ok (.astore 6, 2) := by decide +kernel
theorem dX10_dot_17 : decode cX10_dot 17 = .ok (.aload 6, 2) := by decide +kernel
theorem dX10_dot_19 : decode cX10_dot 19 = .ok (.iload 5, 2) := by decide +kernel
theorem dX10_dot_21 : decode cX10_dot 21 = .ok (.invokevirtual 147, 3) := by decide +kernel
theorem dX10_dot_24 : decode cX10_dot 24 = .ok (.istore 7, 2) := by decide +kernel
theorem dX10_dot_26 : decode cX10_dot 26 = .ok (.aload 6, 2) := by decide +kernel
theorem dX10_dot_28 : decode cX10_dot 28 = .ok (.iload 5, 2) := by decide +kernel
theorem dX10_dot_30 : decode cX10_dot 30 = .ok (.iload 4, 2) := by decide +kernel
theorem dX10_dot_32 : decode cX10_dot 32 = .ok (.invokevirtual 150, 3) := by decide +kernel
theorem dX10_dot_35 : decode cX10_dot 35 = .ok (.iload 7, 2) := by decide +kernel
theorem dX10_dot_37 : decode cX10_dot 37 = .ok (.ireturn, 1) := by decide +kernel
theorem dX10_sweep_0 : decode cX10_sweep 0 = .ok (.aload_n 0, 1) := by decide +kernel
theorem dX10_sweep_1 : decode cX10_sweep 1 = .ok (.iload_n 1, 1) := by decide +kernel
theorem dX10_sweep_2 : decode cX10_sweep 2 = .ok (.iload_n 2, 1) := by decide +kernel
theorem dX10_sweep_3 : decode cX10_sweep 3 = .ok (.iload_n 3, 1) := by decide +kernel
theorem dX10_sweep_4 : decode cX10_sweep 4 = .ok (.invokevirtual 143, 3) := by decide +kernel
theorem dX10_sweep_7 : decode cX10_sweep 7 = .ok (.istore 7, 2) := by decide +kernel
theorem dX10_sweep_9 : decode cX10_sweep 9 = .ok (.aload_n 0, 1) := by decide +kernel
theorem dX10_sweep_10 : decode cX10_sweep 10 = .ok (.getfield 11, 3) := by decide +kernel
theorem dX10_sweep_13 : decode cX10_sweep 13 = .ok (.iload_n 1, 1) := by decide +kernel
theorem dX10_sweep_14 : decode cX10_sweep 14 = .ok (.aaload, 1) := by decide +kernel
theorem dX10_sweep_15 : decode cX10_sweep 15 = .ok (.astore 8, 2) := by decide +kernel
theorem dX10_sweep_17 : decode cX10_sweep 17 = .ok (.iload 4, 2) := by decide +kernel
theorem dX10_sweep_19 : decode cX10_sweep 19 = .ok (.iconst 0, 1) := by decide +kernel
theorem dX10_sweep_20 : decode cX10_sweep 20 = .ok (.invokestatic 154, 3) := by decide +kernel
theorem dX10_sweep_23 : decode cX10_sweep 23 = .ok (.aload 8, 2) := by decide +kernel
theorem dX10_sweep_25 : decode cX10_sweep 25 = .ok (.invokevirtual 160, 3) := by decide +kernel
theorem dX10_sweep_28 : decode cX10_sweep 28 = .ok (.iload 7, 2) := by decide +kernel
theorem dX10_sweep_30 : decode cX10_sweep 30 = .ok (.isub, 1) := by decide +kernel
theorem dX10_sweep_31 : decode cX10_sweep 31 = .ok (.invokestatic 163, 3) := by decide +kernel
theorem dX10_sweep_34 : decode cX10_sweep 34 = .ok (.istore 9, 2) := by decide +kernel
theorem dX10_sweep_36 : decode cX10_sweep 36 = .ok (.iconst 0, 1) := by decide +kernel
theorem dX10_sweep_37 : decode cX10_sweep 37 = .ok (.istore 10, 2) := by decide +kernel
theorem dX10_sweep_39 : decode cX10_sweep 39 = .ok (.iload 10, 2) := by decide +kernel
theorem dX10_sweep_41 : decode cX10_sweep 41 = .ok (.iload 9, 2) := by decide +kernel
theorem dX10_sweep_43 : decode cX10_sweep 43 = .ok (.if_icmp .ge 27, 3) := by decide +kernel
theorem dX10_sweep_46 : decode cX10_sweep 46 = .ok (.aload 8, 2) := by decide +kernel
theorem dX10_sweep_48 : decode cX10_sweep 48 = .ok (.iload 7, 2) := by decide +kernel
theorem dX10_sweep_50 : decode cX10_sweep 50 = .ok (.iload 10, 2) := by decide +kernel
theorem dX10_sweep_52 : decode cX10_sweep 52 = .ok (.iadd, 1) := by decide +kernel
theorem dX10_sweep_53 : decode cX10_sweep 53 = .ok (.iload 5, 2) := by decide +kernel
theorem dX10_sweep_55 : decode cX10_sweep 55 = .ok (.iload 10, 2) := by decide +kernel
theorem dX10_sweep_57 : decode cX10_sweep 57 = .ok (.iload 6, 2) := by decide +kernel
theorem dX10_sweep_59 : decode cX10_sweep 59 = .ok (.imul, 1) := by decide +kernel
theorem dX10_sweep_60 : decode cX10_sweep 60 = .ok (.iadd, 1) := by decide +kernel
theorem dX10_sweep_61 : decode cX10_sweep 61 = .ok (.invokevirtual 150, 3) := by decide +kernel
theorem dX10_sweep_64 : decode cX10_sweep 64 = .ok (.iinc 10 1, 3) := by decide +kernel
theorem dX10_sweep_67 : decode cX10_sweep 67 = .ok (.goto (-28), 3) := by decide +kernel
theorem dX10_sweep_70 : decode cX10_sweep 70 = .ok (.iload 9, 2) := by decide +kernel
theorem dX10_sweep_72 : decode cX10_sweep 72 = .ok (.ireturn, 1) := by decide +kernel
theorem dX10_pixel_0 : decode cX10_pixel 0 = .ok (.aload_n 0, 1) := by decide +kernel
theorem dX10_pixel_1 : decode cX10_pixel 1 = .ok (.iload_n 1, 1) := by decide +kernel
theorem dX10_pixel_2 : decode cX10_pixel 2 = .ok (.iload_n 2, 1) := by decide +kernel
theorem dX10_pixel_3 : decode cX10_pixel 3 = .ok (.iload_n 3, 1) := by decide +kernel
theorem dX10_pixel_4 : decode cX10_pixel 4 = .ok (.invokevirtual 143, 3) := by decide +kernel
theorem dX10_pixel_7 : decode cX10_pixel 7 = .ok (.istore 4, 2) := by decide +kernel
theorem dX10_pixel_9 : decode cX10_pixel 9 = .ok (.aload_n 0, 1) := by decide +kernel
theorem dX10_pixel_10 : decode cX10_pixel 10 = .ok (.getfield 11, 3) := by decide +kernel
theorem dX10_pixel_13 : decode cX10_pixel 13 = .ok (.iload_n 1, 1) := by decide +kernel
theorem dX10_pixel_14 : decode cX10_pixel 14 = .ok (.aaload, 1) := by decide +kernel
theorem dX10_pixel_15 : decode cX10_pixel 15 = .ok (.iload 4, 2) := by decide +kernel
theorem dX10_pixel_17 : decode cX10_pixel 17 = .ok (.invokevirtual 147, 3) := by decide +kernel
theorem dX10_pixel_20 : decode cX10_pixel 20 = .ok (.ireturn, 1) := by decide +kernel
theorem dX10_raster_0 : decode cX10_raster 0 = .ok (.aload_n 0, 1) := by decide +kernel
theorem dX10_raster_1 : decode cX10_raster 1 = .ok (.iload_n 1, 1) := by decide +kernel
theorem dX10_raster_2 : decode cX10_raster 2 = .ok (.invokevirtual 115, 3) := by decide +kernel
theorem dX10_raster_5 : decode cX10_raster 5 = .ok (.ifCond .ne 5, 3) := by decide +kernel
theorem dX10_raster_8 : decode cX10_raster 8 = .ok (.iconst (-1), 1) := by decide +kernel
theorem dX10_raster_9 : decode cX10_raster 9 = .ok (.ireturn, 1) := by decide +kernel
theorem dX10_raster_10 : decode cX10_raster 10 = .ok (.aload_n 0, 1) := by decide +kernel
theorem dX10_raster_11 : decode cX10_raster 11 = .ok (.getfield 11, 3) := by decide +kernel
theorem dX10_raster_14 : decode cX10_raster 14 = .ok (.iload_n 1, 1) := by decide +kernel
theorem dX10_raster_15 : decode cX10_raster 15 = .ok (.aaload, 1) := by decide +kernel
theorem dX10_raster_16 : decode cX10_raster 16 = .ok (.astore_n 3, 1) := by decide +kernel
theorem dX10_raster_17 : decode cX10_raster 17 = .ok (.iload_n 2, 1) := by decide +kernel
theorem dX10_raster_18 : decode cX10_raster 18 = .ok (.tableswitch 103 0 5 #[38, 43, 48, 64, 77, 90], 38) := by decide +kernel
theorem dX10_raster_56 : decode cX10_raster 56 = .ok (.aload_n 3, 1) := by decide +kernel
theorem dX10_raster_57 : decode cX10_raster 57 = .ok (.getfield 135, 3) := by decide +kernel
theorem dX10_raster_60 : decode cX10_raster 60 = .ok (.ireturn, 1) := by decide +kernel
theorem dX10_raster_61 : decode cX10_raster 61 = .ok (.aload_n 3, 1) := by decide +kernel
theorem dX10_raster_62 : decode cX10_raster 62 = .ok (.getfield 138, 3) := by decide +kernel
theorem dX10_raster_65 : decode cX10_raster 65 = .ok (.ireturn, 1) := by decide +kernel
theorem dX10_raster_66 : decode cX10_raster 66 = .ok (.aload_n 0, 1) := by decide +kernel
theorem dX10_raster_67 : decode cX10_raster 67 = .ok (.getfield 42, 3) := by decide +kernel
theorem dX10_raster_70 : decode cX10_raster 70 = .ok (.aload_n 3, 1) := by decide +kernel
theorem dX10_raster_71 : decode cX10_raster 71 = .ok (.invokevirtual 166, 3) := by decide +kernel
theorem dX10_raster_74 : decode cX10_raster 74 = .ok (.aload_n 0, 1) := by decide +kernel
theorem dX10_raster_75 : decode cX10_raster 75 = .ok (.getfield 42, 3) := by decide +kernel
theorem dX10_raster_78 : decode cX10_raster 78 = .ok (.getfield 170, 3) := by decide +kernel
theorem dX10_raster_81 : decode cX10_raster 81 = .ok (.ireturn, 1) := by decide +kernel
theorem dX10_raster_82 : decode cX10_raster 82 = .ok (.aload_n 3, 1) := by decide +kernel
theorem dX10_raster_83 : decode cX10_raster 83 = .ok (.invokevirtual 171, 3) := by decide +kernel
theorem dX10_raster_86 : decode cX10_raster 86 = .ok (.ifCond .eq 7, 3) := by decide +kernel
theorem dX10_raster_89 : decode cX10_raster 89 = .ok (.iconst 1, 1) := by decide +kernel
theorem dX10_raster_90 : decode cX10_raster 90 = .ok (.goto 4, 3) := by decide +kernel
theorem dX10_raster_93 : decode cX10_raster 93 = .ok (.iconst 0, 1) := by decide +kernel
theorem dX10_raster_94 : decode cX10_raster 94 = .ok (.ireturn, 1) := by decide +kernel
theorem dX10_raster_95 : decode cX10_raster 95 = .ok (.aload_n 3, 1) := by decide +kernel
theorem dX10_raster_96 : decode cX10_raster 96 = .ok (.invokevirtual 175, 3) := by decide +kernel
theorem dX10_raster_99 : decode cX10_raster 99 = .ok (.ifCond .eq 7, 3) := by decide +kernel
theorem dX10_raster_102 : decode cX10_raster 102 = .ok (.iconst 1, 1) := by decide +kernel
theorem dX10_raster_103 : decode cX10_raster 103 = .ok (.goto 4, 3) := by decide +kernel
theorem dX10_raster_106 : decode cX10_raster 106 = .ok (.iconst 0, 1) := by decide +kernel
theorem dX10_raster_107 : decode cX10_raster 107 = .ok (.ireturn, 1) := by decide +kernel
theorem dX10_raster_108 : decode cX10_raster 108 = .ok (.aload_n 3, 1) := by decide +kernel
theorem dX10_raster_109 : decode cX10_raster 109 = .ok (.invokevirtual 178, 3) := by decide +kernel
theorem dX10_raster_112 : decode cX10_raster 112 = .ok (.ifCond .eq 7, 3) := by decide +kernel
theorem dX10_raster_115 : decode cX10_raster 115 = .ok (.iconst 1, 1) := by decide +kernel
theorem dX10_raster_116 : decode cX10_raster 116 = .ok (.goto 4, 3) := by decide +kernel
theorem dX10_raster_119 : decode cX10_raster 119 = .ok (.iconst 0, 1) := by decide +kernel
theorem dX10_raster_120 : decode cX10_raster 120 = .ok (.ireturn, 1) := by decide +kernel
theorem dX10_raster_121 : decode cX10_raster 121 = .ok (.iconst (-1), 1) := by decide +kernel
theorem dX10_raster_122 : decode cX10_raster 122 = .ok (.ireturn, 1) := by decide +kernel
theorem dX10_holds_0 : decode cX10_holds 0 = .ok (.aload_n 0, 1) := by decide +kernel
theorem dX10_holds_1 : decode cX10_holds 1 = .ok (.iload_n 1, 1) := by decide +kernel
theorem dX10_holds_2 : decode cX10_holds 2 = .ok (.invokevirtual 115, 3) := by decide +kernel
theorem dX10_holds_5 : decode cX10_holds 5 = .ok (.ifCond .eq 21, 3) := by decide +kernel
theorem dX10_holds_8 : decode cX10_holds 8 = .ok (.aload_n 0, 1) := by decide +kernel
theorem dX10_holds_9 : decode cX10_holds 9 = .ok (.aload_n 0, 1) := by decide +kernel
theorem dX10_holds_10 : decode cX10_holds 10 = .ok (.getfield 11, 3) := by decide +kernel
theorem dX10_holds_13 : decode cX10_holds 13 = .ok (.iload_n 1, 1) := by decide +kernel
theorem dX10_holds_14 : decode cX10_holds 14 = .ok (.aaload, 1) := by decide +kernel
theorem dX10_holds_15 : decode cX10_holds 15 = .ok (.iload_n 2, 1) := by decide +kernel
theorem dX10_holds_16 : decode cX10_holds 16 = .ok (.invokevirtual 181, 3) := by decide +kernel
theorem dX10_holds_19 : decode cX10_holds 19 = .ok (.ifCond .eq 7, 3) := by decide +kernel
theorem dX10_holds_22 : decode cX10_holds 22 = .ok (.iconst 1, 1) := by decide +kernel
theorem dX10_holds_23 : decode cX10_holds 23 = .ok (.goto 4, 3) := by decide +kernel
theorem dX10_holds_26 : decode cX10_holds 26 = .ok (.iconst 0, 1) := by decide +kernel
theorem dX10_holds_27 : decode cX10_holds 27 = .ok (.ireturn, 1) := by decide +kernel
theorem dX10_copy_0 : decode cX10_copy 0 = .ok (.iload_n 1, 1) := by decide +kernel
theorem dX10_copy_1 : decode cX10_copy 1 = .ok (.invokestatic 94, 3) := by decide +kernel
theorem dX10_copy_4 : decode cX10_copy 4 = .ok (.ifCond .eq 10, 3) := by decide +kernel
theorem dX10_copy_7 : decode cX10_copy 7 = .ok (.iload_n 2, 1) := by decide +kernel
theorem dX10_copy_8 : decode cX10_copy 8 = .ok (.invokestatic 94, 3) := by decide +kernel
theorem dX10_copy_11 : decode cX10_copy 11 = .ok (.ifCond .ne 5, 3) := by decide +kernel
theorem dX10_copy_14 : decode cX10_copy 14 = .ok (.iconst 0, 1) := by decide +kernel
theorem dX10_copy_15 : decode cX10_copy 15 = .ok (.ireturn, 1) := by decide +kernel
theorem dX10_copy_16 : decode cX10_copy 16 = .ok (.iload_n 1, 1) := by decide +kernel
theorem dX10_copy_17 : decode cX10_copy 17 = .ok (.iload_n 2, 1) := by decide +kernel
theorem dX10_copy_18 : decode cX10_copy 18 = .ok (.if_icmp .eq 18, 3) := by decide +kernel
theorem dX10_copy_21 : decode cX10_copy 21 = .ok (.aload_n 0, 1) := by decide +kernel
theorem dX10_copy_22 : decode cX10_copy 22 = .ok (.getfield 11, 3) := by decide +kernel
theorem dX10_copy_25 : decode cX10_copy 25 = .ok (.iload_n 2, 1) := by decide +kernel
theorem dX10_copy_26 : decode cX10_copy 26 = .ok (.aaload, 1) := by decide +kernel
theorem dX10_copy_27 : decode cX10_copy 27 = .ok (.aload_n 0, 1) := by decide +kernel
theorem dX10_copy_28 : decode cX10_copy 28 = .ok (.getfield 11, 3) := by decide +kernel
theorem dX10_copy_31 : decode cX10_copy 31 = .ok (.iload_n 1, 1) := by decide +kernel
theorem dX10_copy_32 : decode cX10_copy 32 = .ok (.aaload, 1) := by decide +kernel
theorem dX10_copy_33 : decode cX10_copy 33 = .ok (.invokevirtual 184, 3) := by decide +kernel
theorem dX10_copy_36 : decode cX10_copy 36 = .ok (.iconst 1, 1) := by decide +kernel
theorem dX10_copy_37 : decode cX10_copy 37 = .ok (.ireturn, 1) := by decide +kernel
theorem dX10_same_0 : decode cX10_same 0 = .ok (.iload_n 1, 1) := by decide +kernel
theorem dX10_same_1 : decode cX10_same 1 = .ok (.invokestatic 94, 3) := by decide +kernel
theorem dX10_same_4 : decode cX10_same 4 = .ok (.ifCond .eq 32, 3) := by decide +kernel
theorem dX10_same_7 : decode cX10_same 7 = .ok (.iload_n 2, 1) := by decide +kernel
theorem dX10_same_8 : decode cX10_same 8 = .ok (.invokestatic 94, 3) := by decide +kernel
theorem dX10_same_11 : decode cX10_same 11 = .ok (.ifCond .eq 25, 3) := by decide +kernel
theorem dX10_same_14 : decode cX10_same 14 = .ok (.aload_n 0, 1) := by decide +kernel
theorem dX10_same_15 : decode cX10_same 15 = .ok (.getfield 11, 3) := by decide +kernel
theorem dX10_same_18 : decode cX10_same 18 = .ok (.iload_n 1, 1) := by decide +kernel
theorem dX10_same_19 : decode cX10_same 19 = .ok (.aaload, 1) := by decide +kernel
theorem dX10_same_20 : decode cX10_same 20 = .ok (.aload_n 0, 1) := by decide +kernel
theorem dX10_same_21 : decode cX10_same 21 = .ok (.getfield 11, 3) := by decide +kernel
theorem dX10_same_24 : decode cX10_same 24 = .ok (.iload_n 2, 1) := by decide +kernel
theorem dX10_same_25 : decode cX10_same 25 = .ok (.aaload, 1) := by decide +kernel
theorem dX10_same_26 : decode cX10_same 26 = .ok (.invokevirtual 186, 3) := by decide +kernel
theorem dX10_same_29 : decode cX10_same 29 = .ok (.ifCond .eq 7, 3) := by decide +kernel
theorem dX10_same_32 : decode cX10_same 32 = .ok (.iconst 1, 1) := by decide +kernel
theorem dX10_same_33 : decode cX10_same 33 = .ok (.goto 4, 3) := by decide +kernel
theorem dX10_same_36 : decode cX10_same 36 = .ok (.iconst 0, 1) := by decide +kernel
theorem dX10_same_37 : decode cX10_same 37 = .ok (.ireturn, 1) := by decide +kernel
theorem dX10_chain_0 : decode cX10_chain 0 = .ok (.aload_n 0, 1) := by decide +kernel
theorem dX10_chain_1 : decode cX10_chain 1 = .ok (.iload_n 1, 1) := by decide +kernel
theorem dX10_chain_2 : decode cX10_chain 2 = .ok (.invokevirtual 115, 3) := by decide +kernel
theorem dX10_chain_5 : decode cX10_chain 5 = .ok (.ifCond .eq 13, 3) := by decide +kernel
theorem dX10_chain_8 : decode cX10_chain 8 = .ok (.iload_n 3, 1) := by decide +kernel
theorem dX10_chain_9 : decode cX10_chain 9 = .ok (.ifCond .lt 9, 3) := by decide +kernel
theorem dX10_chain_12 : decode cX10_chain 12 = .ok (.iload_n 3, 1) := by decide +kernel
theorem dX10_chain_13 : decode cX10_chain 13 = .ok (.bipush 6, 2) := by decide +kernel
theorem dX10_chain_15 : decode cX10_chain 15 = .ok (.if_icmp .le 5, 3) := by decide +kernel
theorem dX10_chain_18 : decode cX10_chain 18 = .ok (.iconst (-1), 1) := by decide +kernel
theorem dX10_chain_19 : decode cX10_chain 19 = .ok (.ireturn, 1) := by decide +kernel
theorem dX10_chain_20 : decode cX10_chain 20 = .ok (.iconst 0, 1) := by decide +kernel
theorem dX10_chain_21 : decode cX10_chain 21 = .ok (.istore 4, 2) := by decide +kernel
theorem dX10_chain_23 : decode cX10_chain 23 = .ok (.iload 4, 2) := by decide +kernel
theorem dX10_chain_25 : decode cX10_chain 25 = .ok (.iload_n 3, 1) := by decide +kernel
theorem dX10_chain_26 : decode cX10_chain 26 = .ok (.if_icmp .ge 55, 3) := by decide +kernel
theorem dX10_chain_29 : decode cX10_chain 29 = .ok (.iload_n 2, 1) := by decide +kernel
theorem dX10_chain_30 : decode cX10_chain 30 = .ok (.iconst 5, 1) := by decide +kernel
theorem dX10_chain_31 : decode cX10_chain 31 = .ok (.iload 4, 2) := by decide +kernel
theorem dX10_chain_33 : decode cX10_chain 33 = .ok (.imul, 1) := by decide +kernel
theorem dX10_chain_34 : decode cX10_chain 34 = .ok (.ishr, 1) := by decide +kernel
theorem dX10_chain_35 : decode cX10_chain 35 = .ok (.bipush 31, 2) := by decide +kernel
theorem dX10_chain_37 : decode cX10_chain 37 = .ok (.iand, 1) := by decide +kernel
theorem dX10_chain_38 : decode cX10_chain 38 = .ok (.istore 5, 2) := by decide +kernel
theorem dX10_chain_40 : decode cX10_chain 40 = .ok (.aload_n 0, 1) := by decide +kernel
theorem dX10_chain_41 : decode cX10_chain 41 = .ok (.aload_n 0, 1) := by decide +kernel
theorem dX10_chain_42 : decode cX10_chain 42 = .ok (.getfield 11, 3) := by decide +kernel
theorem dX10_chain_45 : decode cX10_chain 45 = .ok (.iload_n 1, 1) := by decide +kernel
theorem dX10_chain_46 : decode cX10_chain 46 = .ok (.aaload, 1) := by decide +kernel
theorem dX10_chain_47 : decode cX10_chain 47 = .ok (.iload 5, 2) := by decide +kernel
theorem dX10_chain_49 : decode cX10_chain 49 = .ok (.invokevirtual 122, 3) := by decide +kernel
theorem dX10_chain_52 : decode cX10_chain 52 = .ok (.ifCond .eq 20, 3) := by decide +kernel
theorem dX10_chain_55 : decode cX10_chain 55 = .ok (.aload_n 0, 1) := by decide +kernel
theorem dX10_chain_56 : decode cX10_chain 56 = .ok (.aload_n 0, 1) := by decide +kernel
theorem dX10_chain_57 : decode cX10_chain 57 = .ok (.getfield 27, 3) := by decide +kernel
theorem dX10_chain_60 : decode cX10_chain 60 = .ok (.iload 5, 2) := by decide +kernel
theorem dX10_chain_62 : decode cX10_chain 62 = .ok (.invokestatic 118, 3) := by decide +kernel
theorem dX10_chain_65 : decode cX10_chain 65 = .ok (.iload_n 1, 1) := by decide +kernel
theorem dX10_chain_66 : decode cX10_chain 66 = .ok (.invokevirtual 110, 3) := by decide +kernel
theorem dX10_chain_69 : decode cX10_chain 69 = .ok (.ifCond .eq 6, 3) := by decide +kernel
theorem dX10_chain_72 : decode cX10_chain 72 = .ok (.iload 4, 2) := by decide +kernel
theorem dX10_chain_74 : decode cX10_chain 74 = .ok (.ireturn, 1) := by decide +kernel
theorem dX10_chain_75 : decode cX10_chain 75 = .ok (.iinc 4 1, 3) := by decide +kernel
theorem dX10_chain_78 : decode cX10_chain 78 = .ok (.goto (-55), 3) := by decide +kernel
theorem dX10_chain_81 : decode cX10_chain 81 = .ok (.iload_n 3, 1) := by decide +kernel
theorem dX10_chain_82 : decode cX10_chain 82 = .ok (.ireturn, 1) := by decide +kernel
theorem dX10_isShelf_0 : decode cX10_isShelf 0 = .ok (.iload_n 0, 1) := by decide +kernel
theorem dX10_isShelf_1 : decode cX10_isShelf 1 = .ok (.ifCond .lt 12, 3) := by decide +kernel
theorem dX10_isShelf_4 : decode cX10_isShelf 4 = .ok (.iload_n 0, 1) := by decide +kernel
theorem dX10_isShelf_5 : decode cX10_isShelf 5 = .ok (.iconst 4, 1) := by decide +kernel
theorem dX10_isShelf_6 : decode cX10_isShelf 6 = .ok (.if_icmp .ge 7, 3) := by decide +kernel
theorem dX10_isShelf_9 : decode cX10_isShelf 9 = .ok (.iconst 1, 1) := by decide +kernel
theorem dX10_isShelf_10 : decode cX10_isShelf 10 = .ok (.goto 4, 3) := by decide +kernel
theorem dX10_isShelf_13 : decode cX10_isShelf 13 = .ok (.iconst 0, 1) := by decide +kernel
theorem dX10_isShelf_14 : decode cX10_isShelf 14 = .ok (.ireturn, 1) := by decide +kernel
theorem dX10_hasRaster_0 : decode cX10_hasRaster 0 = .ok (.iload_n 1, 1) := by decide +kernel
theorem dX10_hasRaster_1 : decode cX10_hasRaster 1 = .ok (.invokestatic 94, 3) := by decide +kernel
theorem dX10_hasRaster_4 : decode cX10_hasRaster 4 = .ok (.ifCond .eq 19, 3) := by decide +kernel
theorem dX10_hasRaster_7 : decode cX10_hasRaster 7 = .ok (.aload_n 0, 1) := by decide +kernel
theorem dX10_hasRaster_8 : decode cX10_hasRaster 8 = .ok (.getfield 11, 3) := by decide +kernel
theorem dX10_hasRaster_11 : decode cX10_hasRaster 11 = .ok (.iload_n 1, 1) := by decide +kernel
theorem dX10_hasRaster_12 : decode cX10_hasRaster 12 = .ok (.aaload, 1) := by decide +kernel
theorem dX10_hasRaster_13 : decode cX10_hasRaster 13 = .ok (.invokevirtual 190, 3) := by decide +kernel
theorem dX10_hasRaster_16 : decode cX10_hasRaster 16 = .ok (.ifCond .ne 7, 3) := by decide +kernel
theorem dX10_hasRaster_19 : decode cX10_hasRaster 19 = .ok (.iconst 1, 1) := by decide +kernel
theorem dX10_hasRaster_20 : decode cX10_hasRaster 20 = .ok (.goto 4, 3) := by decide +kernel
theorem dX10_hasRaster_23 : decode cX10_hasRaster 23 = .ok (.iconst 0, 1) := by decide +kernel
theorem dX10_hasRaster_24 : decode cX10_hasRaster 24 = .ok (.ireturn, 1) := by decide +kernel
theorem dX10_spot_0 : decode cX10_spot 0 = .ok (.aload_n 0, 1) := by decide +kernel
theorem dX10_spot_1 : decode cX10_spot 1 = .ok (.iload_n 1, 1) := by decide +kernel
theorem dX10_spot_2 : decode cX10_spot 2 = .ok (.invokevirtual 115, 3) := by decide +kernel
theorem dX10_spot_5 : decode cX10_spot 5 = .ok (.ifCond .ne 13, 3) := by decide +kernel
theorem dX10_spot_8 : decode cX10_spot 8 = .ok (.new 98, 3) := by decide +kernel
theorem dX10_spot_11 : decode cX10_spot 11 = .ok (.dup, 1) := by decide +kernel
theorem dX10_spot_12 : decode cX10_spot 12 = .ok (.ldc 193, 2) := by decide +kernel
theorem dX10_spot_14 : decode cX10_spot 14 = .ok (.invokespecial 102, 3) := by decide +kernel
theorem dX10_spot_17 : decode cX10_spot 17 = .ok (.athrow, 1) := by decide +kernel
theorem dX10_spot_18 : decode cX10_spot 18 = .ok (.aload_n 0, 1) := by decide +kernel
theorem dX10_spot_19 : decode cX10_spot 19 = .ok (.getfield 11, 3) := by decide +kernel
theorem dX10_spot_22 : decode cX10_spot 22 = .ok (.iload_n 1, 1) := by decide +kernel
theorem dX10_spot_23 : decode cX10_spot 23 = .ok (.aaload, 1) := by decide +kernel
theorem dX10_spot_24 : decode cX10_spot 24 = .ok (.astore 4, 2) := by decide +kernel
theorem dX10_spot_26 : decode cX10_spot 26 = .ok (.iload_n 2, 1) := by decide +kernel
theorem dX10_spot_27 : decode cX10_spot 27 = .ok (.ifCond .lt 25, 3) := by decide +kernel
theorem dX10_spot_30 : decode cX10_spot 30 = .ok (.iload_n 2, 1) := by decide +kernel
theorem dX10_spot_31 : decode cX10_spot 31 = .ok (.aload 4, 2) := by decide +kernel
theorem dX10_spot_33 : decode cX10_spot 33 = .ok (.getfield 135, 3) := by decide +kernel
theorem dX10_spot_36 : decode cX10_spot 36 = .ok (.if_icmp .ge 16, 3) := by decide +kernel
theorem dX10_spot_39 : decode cX10_spot 39 = .ok (.iload_n 3, 1) := by decide +kernel
theorem dX10_spot_40 : decode cX10_spot 40 = .ok (.ifCond .lt 12, 3) := by decide +kernel
theorem dX10_spot_43 : decode cX10_spot 43 = .ok (.iload_n 3, 1) := by decide +kernel
theorem dX10_spot_44 : decode cX10_spot 44 = .ok (.aload 4, 2) := by decide +kernel
theorem dX10_spot_46 : decode cX10_spot 46 = .ok (.getfield 138, 3) := by decide +kernel
theorem dX10_spot_49 : decode cX10_spot 49 = .ok (.if_icmp .lt 13, 3) := by decide +kernel
theorem dX10_spot_52 : decode cX10_spot 52 = .ok (.new 195, 3) := by decide +kernel
theorem dX10_spot_55 : decode cX10_spot 55 = .ok (.dup, 1) := by decide +kernel
theorem dX10_spot_56 : decode cX10_spot 56 = .ok (.ldc 197, 2) := by decide +kernel
theorem dX10_spot_58 : decode cX10_spot 58 = .ok (.invokespecial 199, 3) := by decide +kernel
theorem dX10_spot_61 : decode cX10_spot 61 = .ok (.athrow, 1) := by decide +kernel
theorem dX10_spot_62 : decode cX10_spot 62 = .ok (.iload_n 3, 1) := by decide +kernel
theorem dX10_spot_63 : decode cX10_spot 63 = .ok (.aload 4, 2) := by decide +kernel
theorem dX10_spot_65 : decode cX10_spot 65 = .ok (.getfield 135, 3) := by decide +kernel
theorem dX10_spot_68 : decode cX10_spot 68 = .ok (.imul, 1) := by decide +kernel
theorem dX10_spot_69 : decode cX10_spot 69 = .ok (.iload_n 2, 1) := by decide +kernel
theorem dX10_spot_70 : decode cX10_spot 70 = .ok (.iadd, 1) := by decide +kernel
theorem dX10_spot_71 : decode cX10_spot 71 = .ok (.ireturn, 1) := by decide +kernel
theorem dX10_takeIn_0 : decode cX10_takeIn 0 = .ok (.iload_n 2, 1) := by decide +kernel
theorem dX10_takeIn_1 : decode cX10_takeIn 1 = .ok (.ifCond .lt 8, 3) := by decide +kernel
theorem dX10_takeIn_4 : decode cX10_takeIn 4 = .ok (.iload_n 2, 1) := by decide +kernel
theorem dX10_takeIn_5 : decode cX10_takeIn 5 = .ok (.iconst 5, 1) := by decide +kernel
theorem dX10_takeIn_6 : decode cX10_takeIn 6 = .ok (.if_icmp .lt 5, 3) := by decide +kernel
theorem dX10_takeIn_9 : decode cX10_takeIn 9 = .ok (.iconst 2, 1) := by decide +kernel
theorem dX10_takeIn_10 : decode cX10_takeIn 10 = .ok (.ireturn, 1) := by decide +kernel
theorem dX10_takeIn_11 : decode cX10_takeIn 11 = .ok (.aload_n 0, 1) := by decide +kernel
theorem dX10_takeIn_12 : decode cX10_takeIn 12 = .ok (.getfield 48, 3) := by decide +kernel
theorem dX10_takeIn_15 : decode cX10_takeIn 15 = .ok (.iload_n 2, 1) := by decide +kernel
theorem dX10_takeIn_16 : decode cX10_takeIn 16 = .ok (.aaload, 1) := by decide +kernel
theorem dX10_takeIn_17 : decode cX10_takeIn 17 = .ok (.astore 4, 2) := by decide +kernel
theorem dX10_takeIn_19 : decode cX10_takeIn 19 = .ok (.aload_n 0, 1) := by decide +kernel
theorem dX10_takeIn_20 : decode cX10_takeIn 20 = .ok (.getfield 35, 3) := by decide +kernel
theorem dX10_takeIn_23 : decode cX10_takeIn 23 = .ok (.aload_n 1, 1) := by decide +kernel
theorem dX10_takeIn_24 : decode cX10_takeIn 24 = .ok (.invokevirtual 200, 3) := by decide +kernel
theorem dX10_takeIn_27 : decode cX10_takeIn 27 = .ok (.aload 4, 2) := by decide +kernel
theorem dX10_takeIn_29 : decode cX10_takeIn 29 = .ok (.aload_n 0, 1) := by decide +kernel
theorem dX10_takeIn_30 : decode cX10_takeIn 30 = .ok (.getfield 35, 3) := by decide +kernel
theorem dX10_takeIn_33 : decode cX10_takeIn 33 = .ok (.aload_n 0, 1) := by decide +kernel
theorem dX10_takeIn_34 : decode cX10_takeIn 34 = .ok (.getfield 16, 3) := by decide +kernel
theorem dX10_takeIn_37 : decode cX10_takeIn 37 = .ok (.invokevirtual 203, 3) := by decide +kernel
theorem dX10_takeIn_40 : decode cX10_takeIn 40 = .ok (.goto 13, 3) := by decide +kernel
theorem dX10_takeIn_43 : decode cX10_takeIn 43 = .ok (.astore 5, 2) := by decide +kernel
theorem dX10_takeIn_45 : decode cX10_takeIn 45 = .ok (.aload_n 0, 1) := by decide +kernel
theorem dX10_takeIn_46 : decode cX10_takeIn 46 = .ok (.getfield 35, 3) := by decide +kernel
theorem dX10_takeIn_49 : decode cX10_takeIn 49 = .ok (.getfield 209, 3) := by decide +kernel
theorem dX10_takeIn_52 : decode cX10_takeIn 52 = .ok (.ireturn, 1) := by decide +kernel
theorem dX10_takeIn_53 : decode cX10_takeIn 53 = .ok (.aload_n 0, 1) := by decide +kernel
theorem dX10_takeIn_54 : decode cX10_takeIn 54 = .ok (.getfield 11, 3) := by decide +kernel
theorem dX10_takeIn_57 : decode cX10_takeIn 57 = .ok (.iload_n 3, 1) := by decide +kernel
theorem dX10_takeIn_58 : decode cX10_takeIn 58 = .ok (.aaload, 1) := by decide +kernel
theorem dX10_takeIn_59 : decode cX10_takeIn 59 = .ok (.astore 5, 2) := by decide +kernel
theorem dX10_takeIn_61 : decode cX10_takeIn 61 = .ok (.aload_n 0, 1) := by decide +kernel
theorem dX10_takeIn_62 : decode cX10_takeIn 62 = .ok (.getfield 11, 3) := by decide +kernel
theorem dX10_takeIn_65 : decode cX10_takeIn 65 = .ok (.iload_n 3, 1) := by decide +kernel
theorem dX10_takeIn_66 : decode cX10_takeIn 66 = .ok (.aload_n 0, 1) := by decide +kernel
theorem dX10_takeIn_67 : decode cX10_takeIn 67 = .ok (.getfield 16, 3) := by decide +kernel
theorem dX10_takeIn_70 : decode cX10_takeIn 70 = .ok (.aastore, 1) := by decide +kernel
theorem dX10_takeIn_71 : decode cX10_takeIn 71 = .ok (.aload_n 0, 1) := by decide +kernel
theorem dX10_takeIn_72 : decode cX10_takeIn 72 = .ok (.aload 5, 2) := by decide +kernel
theorem dX10_takeIn_74 : decode cX10_takeIn 74 = .ok (.putfield 16, 3) := by decide +kernel
theorem dX10_takeIn_77 : decode cX10_takeIn 77 = .ok (.aload_n 0, 1) := by decide +kernel
theorem dX10_takeIn_78 : decode cX10_takeIn 78 = .ok (.getfield 69, 3) := by decide +kernel
theorem dX10_takeIn_81 : decode cX10_takeIn 81 = .ok (.iconst 0, 1) := by decide +kernel
theorem dX10_takeIn_82 : decode cX10_takeIn 82 = .ok (.iload_n 2, 1) := by decide +kernel
theorem dX10_takeIn_83 : decode cX10_takeIn 83 = .ok (.iastore, 1) := by decide +kernel
theorem dX10_takeIn_84 : decode cX10_takeIn 84 = .ok (.aload_n 0, 1) := by decide +kernel
theorem dX10_takeIn_85 : decode cX10_takeIn 85 = .ok (.getfield 69, 3) := by decide +kernel
theorem dX10_takeIn_88 : decode cX10_takeIn 88 = .ok (.iconst 1, 1) := by decide +kernel
theorem dX10_takeIn_89 : decode cX10_takeIn 89 = .ok (.aload 4, 2) := by decide +kernel
theorem dX10_takeIn_91 : decode cX10_takeIn 91 = .ok (.getfield 212, 3) := by decide +kernel
theorem dX10_takeIn_94 : decode cX10_takeIn 94 = .ok (.iastore, 1) := by decide +kernel
theorem dX10_takeIn_95 : decode cX10_takeIn 95 = .ok (.aload_n 0, 1) := by decide +kernel
theorem dX10_takeIn_96 : decode cX10_takeIn 96 = .ok (.getfield 69, 3) := by decide +kernel
theorem dX10_takeIn_99 : decode cX10_takeIn 99 = .ok (.iconst 2, 1) := by decide +kernel
theorem dX10_takeIn_100 : decode cX10_takeIn 100 = .ok (.aload 4, 2) := by decide +kernel
theorem dX10_takeIn_102 : decode cX10_takeIn 102 = .ok (.getfield 215, 3) := by decide +kernel
theorem dX10_takeIn_105 : decode cX10_takeIn 105 = .ok (.iastore, 1) := by decide +kernel
theorem dX10_takeIn_106 : decode cX10_takeIn 106 = .ok (.aload_n 0, 1) := by decide +kernel
theorem dX10_takeIn_107 : decode cX10_takeIn 107 = .ok (.getfield 69, 3) := by decide +kernel
theorem dX10_takeIn_110 : decode cX10_takeIn 110 = .ok (.iconst 3, 1) := by decide +kernel
theorem dX10_takeIn_111 : decode cX10_takeIn 111 = .ok (.aload 4, 2) := by decide +kernel
theorem dX10_takeIn_113 : decode cX10_takeIn 113 = .ok (.getfield 218, 3) := by decide +kernel
theorem dX10_takeIn_116 : decode cX10_takeIn 116 = .ok (.iastore, 1) := by decide +kernel
theorem dX10_takeIn_117 : decode cX10_takeIn 117 = .ok (.iconst 0, 1) := by decide +kernel
theorem dX10_takeIn_118 : decode cX10_takeIn 118 = .ok (.ireturn, 1) := by decide +kernel
theorem dX10_putOut_0 : decode cX10_putOut 0 = .ok (.iload_n 2, 1) := by decide +kernel
theorem dX10_putOut_1 : decode cX10_putOut 1 = .ok (.invokestatic 118, 3) := by decide +kernel
theorem dX10_putOut_4 : decode cX10_putOut 4 = .ok (.istore_n 3, 1) := by decide +kernel
theorem dX10_putOut_5 : decode cX10_putOut 5 = .ok (.iload_n 3, 1) := by decide +kernel
theorem dX10_putOut_6 : decode cX10_putOut 6 = .ok (.iconst (-1), 1) := by decide +kernel
theorem dX10_putOut_7 : decode cX10_putOut 7 = .ok (.if_icmp .eq 12, 3) := by decide +kernel
theorem dX10_putOut_10 : decode cX10_putOut 10 = .ok (.aload_n 0, 1) := by decide +kernel
theorem dX10_putOut_11 : decode cX10_putOut 11 = .ok (.aload_n 1, 1) := by decide +kernel
theorem dX10_putOut_12 : decode cX10_putOut 12 = .ok (.iload_n 2, 1) := by decide +kernel
theorem dX10_putOut_13 : decode cX10_putOut 13 = .ok (.invokevirtual 181, 3) := by decide +kernel
theorem dX10_putOut_16 : decode cX10_putOut 16 = .ok (.ifCond .ne 5, 3) := by decide +kernel
theorem dX10_putOut_19 : decode cX10_putOut 19 = .ok (.iconst 0, 1) := by decide +kernel
theorem dX10_putOut_20 : decode cX10_putOut 20 = .ok (.ireturn, 1) := by decide +kernel
theorem dX10_putOut_21 : decode cX10_putOut 21 = .ok (.aload_n 0, 1) := by decide +kernel
theorem dX10_putOut_22 : decode cX10_putOut 22 = .ok (.getfield 27, 3) := by decide +kernel
theorem dX10_putOut_25 : decode cX10_putOut 25 = .ok (.iconst 0, 1) := by decide +kernel
theorem dX10_putOut_26 : decode cX10_putOut 26 = .ok (.putfield 83, 3) := by decide +kernel
theorem dX10_putOut_29 : decode cX10_putOut 29 = .ok (.aload_n 0, 1) := by decide +kernel
theorem dX10_putOut_30 : decode cX10_putOut 30 = .ok (.getfield 48, 3) := by decide +kernel
theorem dX10_putOut_33 : decode cX10_putOut 33 = .ok (.iload_n 3, 1) := by decide +kernel
theorem dX10_putOut_34 : decode cX10_putOut 34 = .ok (.aaload, 1) := by decide +kernel
theorem dX10_putOut_35 : decode cX10_putOut 35 = .ok (.aload_n 1, 1) := by decide +kernel
theorem dX10_putOut_36 : decode cX10_putOut 36 = .ok (.iload_n 2, 1) := by decide +kernel
theorem dX10_putOut_37 : decode cX10_putOut 37 = .ok (.aload_n 0, 1) := by decide +kernel
theorem dX10_putOut_38 : decode cX10_putOut 38 = .ok (.getfield 27, 3) := by decide +kernel
theorem dX10_putOut_41 : decode cX10_putOut 41 = .ok (.invokevirtual 221, 3) := by decide +kernel
theorem dX10_putOut_44 : decode cX10_putOut 44 = .ok (.iconst 1, 1) := by decide +kernel
theorem dX10_putOut_45 : decode cX10_putOut 45 = .ok (.ireturn, 1) := by decide +kernel
theorem dX10_familyOf_0 : decode cX10_familyOf 0 = .ok (.iload_n 0, 1) := by decide +kernel
theorem dX10_familyOf_1 : decode cX10_familyOf 1 = .ok (.ifCond .lt 9, 3) := by decide +kernel
theorem dX10_familyOf_4 : decode cX10_familyOf 4 = .ok (.iload_n 0, 1) := by decide +kernel
theorem dX10_familyOf_5 : decode cX10_familyOf 5 = .ok (.bipush 17, 2) := by decide +kernel
theorem dX10_familyOf_7 : decode cX10_familyOf 7 = .ok (.if_icmp .le 5, 3) := by decide +kernel
theorem dX10_familyOf_10 : decode cX10_familyOf 10 = .ok (.iconst (-1), 1) := by decide +kernel
theorem dX10_familyOf_11 : decode cX10_familyOf 11 = .ok (.ireturn, 1) := by decide +kernel
theorem dX10_familyOf_12 : decode cX10_familyOf 12 = .ok (.iload_n 0, 1) := by decide +kernel
theorem dX10_familyOf_13 : decode cX10_familyOf 13 = .ok (.ifCond .ne 5, 3) := by decide +kernel
theorem dX10_familyOf_16 : decode cX10_familyOf 16 = .ok (.iconst 0, 1) := by decide +kernel
theorem dX10_familyOf_17 : decode cX10_familyOf 17 = .ok (.ireturn, 1) := by decide +kernel
theorem dX10_familyOf_18 : decode cX10_familyOf 18 = .ok (.iload_n 0, 1) := by decide +kernel
theorem dX10_familyOf_19 : decode cX10_familyOf 19 = .ok (.bipush 7, 2) := by decide +kernel
theorem dX10_familyOf_21 : decode cX10_familyOf 21 = .ok (.if_icmp .ge 5, 3) := by decide +kernel
theorem dX10_familyOf_24 : decode cX10_familyOf 24 = .ok (.iconst 1, 1) := by decide +kernel
theorem dX10_familyOf_25 : decode cX10_familyOf 25 = .ok (.ireturn, 1) := by decide +kernel
theorem dX10_familyOf_26 : decode cX10_familyOf 26 = .ok (.iload_n 0, 1) := by decide +kernel
theorem dX10_familyOf_27 : decode cX10_familyOf 27 = .ok (.bipush 10, 2) := by decide +kernel
theorem dX10_familyOf_29 : decode cX10_familyOf 29 = .ok (.if_icmp .ge 5, 3) := by decide +kernel
theorem dX10_familyOf_32 : decode cX10_familyOf 32 = .ok (.iconst 2, 1) := by decide +kernel
theorem dX10_familyOf_33 : decode cX10_familyOf 33 = .ok (.ireturn, 1) := by decide +kernel
theorem dX10_familyOf_34 : decode cX10_familyOf 34 = .ok (.iload_n 0, 1) := by decide +kernel
theorem dX10_familyOf_35 : decode cX10_familyOf 35 = .ok (.bipush 16, 2) := by decide +kernel
theorem dX10_familyOf_37 : decode cX10_familyOf 37 = .ok (.if_icmp .ge 7, 3) := by decide +kernel
theorem dX10_familyOf_40 : decode cX10_familyOf 40 = .ok (.iconst 3, 1) := by decide +kernel
theorem dX10_familyOf_41 : decode cX10_familyOf 41 = .ok (.goto 4, 3) := by decide +kernel
theorem dX10_familyOf_44 : decode cX10_familyOf 44 = .ok (.iconst 4, 1) := by decide +kernel
theorem dX10_familyOf_45 : decode cX10_familyOf 45 = .ok (.ireturn, 1) := by decide +kernel
theorem dX10_fits_0 : decode cX10_fits 0 = .ok (.iload_n 2, 1) := by decide +kernel
theorem dX10_fits_1 : decode cX10_fits 1 = .ok (.tableswitch 146 0 17 #[87, 89, 94, 114, 89, 94, 114, 114, 119, 119, 87, 87, 94, 94, 140, 140, 114, 119], 87) := by decide +kernel
theorem dX10_fits_88 : decode cX10_fits 88 = .ok (.iconst 1, 1) := by decide +kernel
theorem dX10_fits_89 : decode cX10_fits 89 = .ok (.ireturn, 1) := by decide +kernel
theorem dX10_fits_90 : decode cX10_fits 90 = .ok (.aload_n 1, 1) := by decide +kernel
theorem dX10_fits_91 : decode cX10_fits 91 = .ok (.invokevirtual 178, 3) := by decide +kernel
theorem dX10_fits_94 : decode cX10_fits 94 = .ok (.ireturn, 1) := by decide +kernel
theorem dX10_fits_95 : decode cX10_fits 95 = .ok (.aload_n 1, 1) := by decide +kernel
theorem dX10_fits_96 : decode cX10_fits 96 = .ok (.invokevirtual 171, 3) := by decide +kernel
theorem dX10_fits_99 : decode cX10_fits 99 = .ok (.ifCond .eq 14, 3) := by decide +kernel
theorem dX10_fits_102 : decode cX10_fits 102 = .ok (.aload_n 1, 1) := by decide +kernel
theorem dX10_fits_103 : decode cX10_fits 103 = .ok (.invokevirtual 175, 3) := by decide +kernel
theorem dX10_fits_106 : decode cX10_fits 106 = .ok (.ifCond .eq 7, 3) := by decide +kernel
theorem dX10_fits_109 : decode cX10_fits 109 = .ok (.iconst 1, 1) := by decide +kernel
theorem dX10_fits_110 : decode cX10_fits 110 = .ok (.goto 4, 3) := by decide +kernel
theorem dX10_fits_113 : decode cX10_fits 113 = .ok (.iconst 0, 1) := by decide +kernel
theorem dX10_fits_114 : decode cX10_fits 114 = .ok (.ireturn, 1) := by decide +kernel
theorem dX10_fits_115 : decode cX10_fits 115 = .ok (.aload_n 1, 1) := by decide +kernel
theorem dX10_fits_116 : decode cX10_fits 116 = .ok (.invokevirtual 171, 3) := by decide +kernel
theorem dX10_fits_119 : decode cX10_fits 119 = .ok (.ireturn, 1) := by decide +kernel
theorem dX10_fits_120 : decode cX10_fits 120 = .ok (.aload_n 1, 1) := by decide +kernel
theorem dX10_fits_121 : decode cX10_fits 121 = .ok (.invokevirtual 171, 3) := by decide +kernel
theorem dX10_fits_124 : decode cX10_fits 124 = .ok (.ifCond .eq 15, 3) := by decide +kernel
theorem dX10_fits_127 : decode cX10_fits 127 = .ok (.aload_n 0, 1) := by decide +kernel
theorem dX10_fits_128 : decode cX10_fits 128 = .ok (.aload_n 1, 1) := by decide +kernel
theorem dX10_fits_129 : decode cX10_fits 129 = .ok (.invokevirtual 225, 3) := by decide +kernel
theorem dX10_fits_132 : decode cX10_fits 132 = .ok (.ifCond .eq 7, 3) := by decide +kernel
theorem dX10_fits_135 : decode cX10_fits 135 = .ok (.iconst 1, 1) := by decide +kernel
theorem dX10_fits_136 : decode cX10_fits 136 = .ok (.goto 4, 3) := by decide +kernel
theorem dX10_fits_139 : decode cX10_fits 139 = .ok (.iconst 0, 1) := by decide +kernel
theorem dX10_fits_140 : decode cX10_fits 140 = .ok (.ireturn, 1) := by decide +kernel
theorem dX10_fits_141 : decode cX10_fits 141 = .ok (.aload_n 0, 1) := by decide +kernel
theorem dX10_fits_142 : decode cX10_fits 142 = .ok (.aload_n 1, 1) := by decide +kernel
theorem dX10_fits_143 : decode cX10_fits 143 = .ok (.invokevirtual 225, 3) := by decide +kernel
theorem dX10_fits_146 : decode cX10_fits 146 = .ok (.ireturn, 1) := by decide +kernel
theorem dX10_fits_147 : decode cX10_fits 147 = .ok (.iconst 0, 1) := by decide +kernel
theorem dX10_fits_148 : decode cX10_fits 148 = .ok (.ireturn, 1) := by decide +kernel
theorem dX10_hasFewColours_0 : decode cX10_hasFewColours 0 = .ok (.aload_n 0, 1) := by decide +kernel
theorem dX10_hasFewColours_1 : decode cX10_hasFewColours 1 = .ok (.getfield 42, 3) := by decide +kernel
theorem dX10_hasFewColours_4 : decode cX10_hasFewColours 4 = .ok (.aload_n 1, 1) := by decide +kernel
theorem dX10_hasFewColours_5 : decode cX10_hasFewColours 5 = .ok (.invokevirtual 166, 3) := by decide +kernel
theorem dX10_hasFewColours_8 : decode cX10_hasFewColours 8 = .ok (.aload_n 0, 1) := by decide +kernel
theorem dX10_hasFewColours_9 : decode cX10_hasFewColours 9 = .ok (.getfield 42, 3) := by decide +kernel
theorem dX10_hasFewColours_12 : decode cX10_hasFewColours 12 = .ok (.getfield 170, 3) := by decide +kernel
theorem dX10_hasFewColours_15 : decode cX10_hasFewColours 15 = .ok (.sipush 256, 3) := by decide +kernel
theorem dX10_hasFewColours_18 : decode cX10_hasFewColours 18 = .ok (.if_icmp .gt 7, 3) := by decide +kernel
theorem dX10_hasFewColours_21 : decode cX10_hasFewColours 21 = .ok (.iconst 1, 1) := by decide +kernel
theorem dX10_hasFewColours_22 : decode cX10_hasFewColours 22 = .ok (.goto 4, 3) := by decide +kernel
theorem dX10_hasFewColours_25 : decode cX10_hasFewColours 25 = .ok (.iconst 0, 1) := by decide +kernel
theorem dX10_hasFewColours_26 : decode cX10_hasFewColours 26 = .ok (.ireturn, 1) := by decide +kernel
theorem dX10_isTooLarge_0 : decode cX10_isTooLarge 0 = .ok (.lload_n 0, 1) := by decide +kernel
theorem dX10_isTooLarge_1 : decode cX10_isTooLarge 1 = .ok (.ldc2_w 228, 3) := by decide +kernel
theorem dX10_isTooLarge_4 : decode cX10_isTooLarge 4 = .ok (.lcmp, 1) := by decide +kernel
theorem dX10_isTooLarge_5 : decode cX10_isTooLarge 5 = .ok (.ifCond .gt 21, 3) := by decide +kernel
theorem dX10_isTooLarge_8 : decode cX10_isTooLarge 8 = .ok (.lload_n 2, 1) := by decide +kernel
theorem dX10_isTooLarge_9 : decode cX10_isTooLarge 9 = .ok (.ldc2_w 228, 3) := by decide +kernel
theorem dX10_isTooLarge_12 : decode cX10_isTooLarge 12 = .ok (.lcmp, 1) := by decide +kernel
theorem dX10_isTooLarge_13 : decode cX10_isTooLarge 13 = .ok (.ifCond .gt 13, 3) := by decide +kernel
theorem dX10_isTooLarge_16 : decode cX10_isTooLarge 16 = .ok (.lload_n 0, 1) := by decide +kernel
theorem dX10_isTooLarge_17 : decode cX10_isTooLarge 17 = .ok (.lload_n 2, 1) := by decide +kernel
theorem dX10_isTooLarge_18 : decode cX10_isTooLarge 18 = .ok (.lmul, 1) := by decide +kernel
theorem dX10_isTooLarge_19 : decode cX10_isTooLarge 19 = .ok (.ldc2_w 228, 3) := by decide +kernel
theorem dX10_isTooLarge_22 : decode cX10_isTooLarge 22 = .ok (.lcmp, 1) := by decide +kernel
theorem dX10_isTooLarge_23 : decode cX10_isTooLarge 23 = .ok (.ifCond .le 7, 3) := by decide +kernel
theorem dX10_isTooLarge_26 : decode cX10_isTooLarge 26 = .ok (.iconst 1, 1) := by decide +kernel
theorem dX10_isTooLarge_27 : decode cX10_isTooLarge 27 = .ok (.goto 4, 3) := by decide +kernel
theorem dX10_isTooLarge_30 : decode cX10_isTooLarge 30 = .ok (.iconst 0, 1) := by decide +kernel
theorem dX10_isTooLarge_31 : decode cX10_isTooLarge 31 = .ok (.ireturn, 1) := by decide +kernel
theorem dX10_pixelOf_0 : decode cX10_pixelOf 0 = .ok (.iload_n 0, 1) := by decide +kernel
theorem dX10_pixelOf_1 : decode cX10_pixelOf 1 = .ok (.bipush 24, 2) := by decide +kernel
theorem dX10_pixelOf_3 : decode cX10_pixelOf 3 = .ok (.ishl, 1) := by decide +kernel
theorem dX10_pixelOf_4 : decode cX10_pixelOf 4 = .ok (.iload_n 1, 1) := by decide +kernel
theorem dX10_pixelOf_5 : decode cX10_pixelOf 5 = .ok (.bipush 16, 2) := by decide +kernel
theorem dX10_pixelOf_7 : decode cX10_pixelOf 7 = .ok (.ishl, 1) := by decide +kernel
theorem dX10_pixelOf_8 : decode cX10_pixelOf 8 = .ok (.ior, 1) := by decide +kernel
theorem dX10_pixelOf_9 : decode cX10_pixelOf 9 = .ok (.iload_n 2, 1) := by decide +kernel
theorem dX10_pixelOf_10 : decode cX10_pixelOf 10 = .ok (.bipush 8, 2) := by decide +kernel
theorem dX10_pixelOf_12 : decode cX10_pixelOf 12 = .ok (.ishl, 1) := by decide +kernel
theorem dX10_pixelOf_13 : decode cX10_pixelOf 13 = .ok (.ior, 1) := by decide +kernel
theorem dX10_pixelOf_14 : decode cX10_pixelOf 14 = .ok (.iload_n 3, 1) := by decide +kernel
theorem dX10_pixelOf_15 : decode cX10_pixelOf 15 = .ok (.ior, 1) := by decide +kernel
theorem dX10_pixelOf_16 : decode cX10_pixelOf 16 = .ok (.ireturn, 1) := by decide +kernel
theorem dX10_redOf_0 : decode cX10_redOf 0 = .ok (.iload_n 0, 1) := by decide +kernel
theorem dX10_redOf_1 : decode cX10_redOf 1 = .ok (.bipush 24, 2) := by decide +kernel
theorem dX10_redOf_3 : decode cX10_redOf 3 = .ok (.iushr, 1) := by decide +kernel
theorem dX10_redOf_4 : decode cX10_redOf 4 = .ok (.ireturn, 1) := by decide +kernel
theorem dX10_greenOf_0 : decode cX10_greenOf 0 = .ok (.iload_n 0, 1) := by decide +kernel
theorem dX10_greenOf_1 : decode cX10_greenOf 1 = .ok (.bipush 16, 2) := by decide +kernel
theorem dX10_greenOf_3 : decode cX10_greenOf 3 = .ok (.iushr, 1) := by decide +kernel
theorem dX10_greenOf_4 : decode cX10_greenOf 4 = .ok (.sipush 255, 3) := by decide +kernel
theorem dX10_greenOf_7 : decode cX10_greenOf 7 = .ok (.iand, 1) := by decide +kernel
theorem dX10_greenOf_8 : decode cX10_greenOf 8 = .ok (.ireturn, 1) := by decide +kernel
theorem dX10_blueOf_0 : decode cX10_blueOf 0 = .ok (.iload_n 0, 1) := by decide +kernel
theorem dX10_blueOf_1 : decode cX10_blueOf 1 = .ok (.bipush 8, 2) := by decide +kernel
theorem dX10_blueOf_3 : decode cX10_blueOf 3 = .ok (.iushr, 1) := by decide +kernel
theorem dX10_blueOf_4 : decode cX10_blueOf 4 = .ok (.sipush 255, 3) := by decide +kernel
theorem dX10_blueOf_7 : decode cX10_blueOf 7 = .ok (.iand, 1) := by decide +kernel
theorem dX10_blueOf_8 : decode cX10_blueOf 8 = .ok (.ireturn, 1) := by decide +kernel
theorem dX10_alphaOf_0 : decode cX10_alphaOf 0 = .ok (.iload_n 0, 1) := by decide +kernel
theorem dX10_alphaOf_1 : decode cX10_alphaOf 1 = .ok (.sipush 255, 3) := by decide +kernel
theorem dX10_alphaOf_4 : decode cX10_alphaOf 4 = .ok (.iand, 1) := by decide +kernel
theorem dX10_alphaOf_5 : decode cX10_alphaOf 5 = .ok (.ireturn, 1) := by decide +kernel
theorem dX10_grayOf_0 : decode cX10_grayOf 0 = .ok (.iload_n 0, 1) := by decide +kernel
theorem dX10_grayOf_1 : decode cX10_grayOf 1 = .ok (.iload_n 0, 1) := by decide +kernel
theorem dX10_grayOf_2 : decode cX10_grayOf 2 = .ok (.iload_n 0, 1) := by decide +kernel
theorem dX10_grayOf_3 : decode cX10_grayOf 3 = .ok (.sipush 255, 3) := by decide +kernel
theorem dX10_grayOf_6 : decode cX10_grayOf 6 = .ok (.invokestatic 230, 3) := by decide +kernel
theorem dX10_grayOf_9 : decode cX10_grayOf 9 = .ok (.ireturn, 1) := by decide +kernel
theorem dX10_ofFiveBits_0 : decode cX10_ofFiveBits 0 = .ok (.sipush 510, 3) := by decide +kernel
theorem dX10_ofFiveBits_3 : decode cX10_ofFiveBits 3 = .ok (.iload_n 0, 1) := by decide +kernel
theorem dX10_ofFiveBits_4 : decode cX10_ofFiveBits 4 = .ok (.imul, 1) := by decide +kernel
theorem dX10_ofFiveBits_5 : decode cX10_ofFiveBits 5 = .ok (.bipush 31, 2) := by decide +kernel
theorem dX10_ofFiveBits_7 : decode cX10_ofFiveBits 7 = .ok (.iadd, 1) := by decide +kernel
theorem dX10_ofFiveBits_8 : decode cX10_ofFiveBits 8 = .ok (.bipush 62, 2) := by decide +kernel
theorem dX10_ofFiveBits_10 : decode cX10_ofFiveBits 10 = .ok (.idiv, 1) := by decide +kernel
theorem dX10_ofFiveBits_11 : decode cX10_ofFiveBits 11 = .ok (.ireturn, 1) := by decide +kernel
theorem dX10_ofSixteenBits_0 : decode cX10_ofSixteenBits 0 = .ok (.iload_n 0, 1) := by decide +kernel
theorem dX10_ofSixteenBits_1 : decode cX10_ofSixteenBits 1 = .ok (.bipush 10, 2) := by decide +kernel
theorem dX10_ofSixteenBits_3 : decode cX10_ofSixteenBits 3 = .ok (.ishr, 1) := by decide +kernel
theorem dX10_ofSixteenBits_4 : decode cX10_ofSixteenBits 4 = .ok (.bipush 31, 2) := by decide +kernel
theorem dX10_ofSixteenBits_6 : decode cX10_ofSixteenBits 6 = .ok (.iand, 1) := by decide +kernel
theorem dX10_ofSixteenBits_7 : decode cX10_ofSixteenBits 7 = .ok (.invokestatic 234, 3) := by decide +kernel
theorem dX10_ofSixteenBits_10 : decode cX10_ofSixteenBits 10 = .ok (.iload_n 0, 1) := by decide +kernel
theorem dX10_ofSixteenBits_11 : decode cX10_ofSixteenBits 11 = .ok (.iconst 5, 1) := by decide +kernel
theorem dX10_ofSixteenBits_12 : decode cX10_ofSixteenBits 12 = .ok (.ishr, 1) := by decide +kernel
theorem dX10_ofSixteenBits_13 : decode cX10_ofSixteenBits 13 = .ok (.bipush 31, 2) := by decide +kernel
theorem dX10_ofSixteenBits_15 : decode cX10_ofSixteenBits 15 = .ok (.iand, 1) := by decide +kernel
theorem dX10_ofSixteenBits_16 : decode cX10_ofSixteenBits 16 = .ok (.invokestatic 234, 3) := by decide +kernel
theorem dX10_ofSixteenBits_19 : decode cX10_ofSixteenBits 19 = .ok (.iload_n 0, 1) := by decide +kernel
theorem dX10_ofSixteenBits_20 : decode cX10_ofSixteenBits 20 = .ok (.bipush 31, 2) := by decide +kernel
theorem dX10_ofSixteenBits_22 : decode cX10_ofSixteenBits 22 = .ok (.iand, 1) := by decide +kernel
theorem dX10_ofSixteenBits_23 : decode cX10_ofSixteenBits 23 = .ok (.invokestatic 234, 3) := by decide +kernel
theorem dX10_ofSixteenBits_26 : decode cX10_ofSixteenBits 26 = .ok (.iload_n 1, 1) := by decide +kernel
theorem dX10_ofSixteenBits_27 : decode cX10_ofSixteenBits 27 = .ok (.invokestatic 230, 3) := by decide +kernel
theorem dX10_ofSixteenBits_30 : decode cX10_ofSixteenBits 30 = .ok (.ireturn, 1) := by decide +kernel
