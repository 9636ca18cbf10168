theorem dX11_init_0 : decode cX11_init 0 = .ok (.aload_n 0, 1) := by decide +kernel
theorem dX11_init_1 : decode cX11_init 1 = .ok (.invokespecial 1, 3) := by decide +kernel
theorem dX11_init_4 : decode cX11_init 4 = .ok (.aload_n 0, 1) := by decide +kernel
theorem dX11_init_5 : decode cX11_init 5 = .ok (.ldc 9, 2) := by decide +kernel
theorem dX11_init_7 : decode cX11_init 7 = .ok (.newarray .byte, 2) := by decide +kernel
theorem dX11_init_9 : decode cX11_init 9 = .ok (.putfield 10, 3) := by decide +kernel
theorem dX11_init_12 : decode cX11_init 12 = .ok (.aload_n 0, 1) := by decide +kernel
theorem dX11_init_13 : decode cX11_init 13 = .ok (.ldc 9, 2) := by decide +kernel
theorem dX11_init_15 : decode cX11_init 15 = .ok (.newarray .byte, 2) := by decide +kernel
theorem dX11_init_17 : decode cX11_init 17 = .ok (.putfield 14, 3) := by decide +kernel
theorem dX11_init_20 : decode cX11_init 20 = .ok (.aload_n 0, 1) := by decide +kernel
theorem dX11_init_21 : decode cX11_init 21 = .ok (.sipush 16384, 3) := by decide +kernel
theorem dX11_init_24 : decode cX11_init 24 = .ok (.newarray .int, 2) := by decide +kernel
theorem dX11_init_26 : decode cX11_init 26 = .ok (.putfield 17, 3) := by decide +kernel
theorem dX11_init_29 : decode cX11_init 29 = .ok (.aload_n 0, 1) := by decide +kernel
theorem dX11_init_30 : decode cX11_init 30 = .ok (.iconst 4, 1) := by decide +kernel
theorem dX11_init_31 : decode cX11_init 31 = .ok (.newarray .int, 2) := by decide +kernel
theorem dX11_init_33 : decode cX11_init 33 = .ok (.putfield 21, 3) := by decide +kernel
theorem dX11_init_36 : decode cX11_init 36 = .ok (.aload_n 0, 1) := by decide +kernel
theorem dX11_init_37 : decode cX11_init 37 = .ok (.iconst 4, 1) := by decide +kernel
theorem dX11_init_38 : decode cX11_init 38 = .ok (.newarray .int, 2) := by decide +kernel
theorem dX11_init_40 : decode cX11_init 40 = .ok (.putfield 24, 3) := by decide +kernel
theorem dX11_init_43 : decode cX11_init 43 = .ok (.aload_n 0, 1) := by decide +kernel
theorem dX11_init_44 : decode cX11_init 44 = .ok (.sipush 4096, 3) := by decide +kernel
theorem dX11_init_47 : decode cX11_init 47 = .ok (.newarray .int, 2) := by decide +kernel
theorem dX11_init_49 : decode cX11_init 49 = .ok (.putfield 27, 3) := by decide +kernel
theorem dX11_init_52 : decode cX11_init 52 = .ok (.aload_n 0, 1) := by decide +kernel
theorem dX11_init_53 : decode cX11_init 53 = .ok (.iconst (-1), 1) := by decide +kernel
theorem dX11_init_54 : decode cX11_init 54 = .ok (.putfield 30, 3) := by decide +kernel
theorem dX11_init_57 : decode cX11_init 57 = .ok (.aload_n 0, 1) := by decide +kernel
theorem dX11_init_58 : decode cX11_init 58 = .ok (.iconst (-1), 1) := by decide +kernel
theorem dX11_init_59 : decode cX11_init 59 = .ok (.putfield 34, 3) := by decide +kernel
theorem dX11_init_62 : decode cX11_init 62 = .ok (.aload_n 0, 1) := by decide +kernel
theorem dX11_init_63 : decode cX11_init 63 = .ok (.iconst (-1), 1) := by decide +kernel
theorem dX11_init_64 : decode cX11_init 64 = .ok (.putfield 37, 3) := by decide +kernel
theorem dX11_init_67 : decode cX11_init 67 = .ok (.aload_n 0, 1) := by decide +kernel
theorem dX11_init_68 : decode cX11_init 68 = .ok (.iconst (-1), 1) := by decide +kernel
theorem dX11_init_69 : decode cX11_init 69 = .ok (.putfield 40, 3) := by decide +kernel
theorem dX11_init_72 : decode cX11_init 72 = .ok (.aload_n 0, 1) := by decide +kernel
theorem dX11_init_73 : decode cX11_init 73 = .ok (.iconst (-1), 1) := by decide +kernel
theorem dX11_init_74 : decode cX11_init 74 = .ok (.putfield 43, 3) := by decide +kernel
theorem dX11_init_77 : decode cX11_init 77 = .ok (.aload_n 0, 1) := by decide +kernel
theorem dX11_init_78 : decode cX11_init 78 = .ok (.bipush 64, 2) := by decide +kernel
theorem dX11_init_80 : decode cX11_init 80 = .ok (.newarray .int, 2) := by decide +kernel
theorem dX11_init_82 : decode cX11_init 82 = .ok (.putfield 46, 3) := by decide +kernel
theorem dX11_init_85 : decode cX11_init 85 = .ok (.aload_n 0, 1) := by decide +kernel
theorem dX11_init_86 : decode cX11_init 86 = .ok (.ldc 9, 2) := by decide +kernel
theorem dX11_init_88 : decode cX11_init 88 = .ok (.newarray .int, 2) := by decide +kernel
theorem dX11_init_90 : decode cX11_init 90 = .ok (.putfield 49, 3) := by decide +kernel
theorem dX11_init_93 : decode cX11_init 93 = .ok (.aload_n 0, 1) := by decide +kernel
theorem dX11_init_94 : decode cX11_init 94 = .ok (.sipush 16384, 3) := by decide +kernel
theorem dX11_init_97 : decode cX11_init 97 = .ok (.newarray .byte, 2) := by decide +kernel
theorem dX11_init_99 : decode cX11_init 99 = .ok (.putfield 52, 3) := by decide +kernel
theorem dX11_init_102 : decode cX11_init 102 = .ok (.aload_n 0, 1) := by decide +kernel
theorem dX11_init_103 : decode cX11_init 103 = .ok (.sipush 4096, 3) := by decide +kernel
theorem dX11_init_106 : decode cX11_init 106 = .ok (.newarray .int, 2) := by decide +kernel
theorem dX11_init_108 : decode cX11_init 108 = .ok (.putfield 55, 3) := by decide +kernel
theorem dX11_init_111 : decode cX11_init 111 = .ok (.aload_n 0, 1) := by decide +kernel
theorem dX11_init_112 : decode cX11_init 112 = .ok (.sipush 256, 3) := by decide +kernel
theorem dX11_init_115 : decode cX11_init 115 = .ok (.newarray .int, 2) := by decide +kernel
theorem dX11_init_117 : decode cX11_init 117 = .ok (.putfield 58, 3) := by decide +kernel
theorem dX11_init_120 : decode cX11_init 120 = .ok (.return_, 1) := by decide +kernel
theorem dX11_thrown_0 : decode cX11_thrown 0 = .ok (.aload_n 0, 1) := by decide +kernel
theorem dX11_thrown_1 : decode cX11_thrown 1 = .ok (.getfield 61, 3) := by decide +kernel
theorem dX11_thrown_4 : decode cX11_thrown 4 = .ok (.ireturn, 1) := by decide +kernel
theorem dX11_four_0 : decode cX11_four 0 = .ok (.bipush 24, 2) := by decide +kernel
theorem dX11_four_2 : decode cX11_four 2 = .ok (.istore_n 2, 1) := by decide +kernel
theorem dX11_four_3 : decode cX11_four 3 = .ok (.iload_n 2, 1) := by decide +kernel
theorem dX11_four_4 : decode cX11_four 4 = .ok (.ifCond .lt 32, 3) := by decide +kernel
theorem dX11_four_7 : decode cX11_four 7 = .ok (.aload_n 0, 1) := by decide +kernel
theorem dX11_four_8 : decode cX11_four 8 = .ok (.getfield 10, 3) := by decide +kernel
theorem dX11_four_11 : decode cX11_four 11 = .ok (.aload_n 0, 1) := by decide +kernel
theorem dX11_four_12 : decode cX11_four 12 = .ok (.getfield 64, 3) := by decide +kernel
theorem dX11_four_15 : decode cX11_four 15 = .ok (.iload_n 1, 1) := by decide +kernel
theorem dX11_four_16 : decode cX11_four 16 = .ok (.iload_n 2, 1) := by decide +kernel
theorem dX11_four_17 : decode cX11_four 17 = .ok (.ishr, 1) := by decide +kernel
theorem dX11_four_18 : decode cX11_four 18 = .ok (.i2b, 1) := by decide +kernel
theorem dX11_four_19 : decode cX11_four 19 = .ok (.bastore, 1) := by decide +kernel
theorem dX11_four_20 : decode cX11_four 20 = .ok (.aload_n 0, 1) := by decide +kernel
theorem dX11_four_21 : decode cX11_four 21 = .ok (.dup, 1) := by decide +kernel
theorem dX11_four_22 : decode cX11_four 22 = .ok (.getfield 64, 3) := by decide +kernel
theorem dX11_four_25 : decode cX11_four 25 = .ok (.iconst 1, 1) := by decide +kernel
theorem dX11_four_26 : decode cX11_four 26 = .ok (.iadd, 1) := by decide +kernel
theorem dX11_four_27 : decode cX11_four 27 = .ok (.putfield 64, 3) := by decide +kernel
theorem dX11_four_30 : decode cX11_four 30 = .ok (.iinc 2 (-8), 3) := by decide +kernel
theorem dX11_four_33 : decode cX11_four 33 = .ok (.goto (-30), 3) := by decide +kernel
theorem dX11_four_36 : decode cX11_four 36 = .ok (.return_, 1) := by decide +kernel
theorem dX11_feed_0 : decode cX11_feed 0 = .ok (.aload_n 0, 1) := by decide +kernel
theorem dX11_feed_1 : decode cX11_feed 1 = .ok (.iconst 0, 1) := by decide +kernel
theorem dX11_feed_2 : decode cX11_feed 2 = .ok (.putfield 61, 3) := by decide +kernel
theorem dX11_feed_5 : decode cX11_feed 5 = .ok (.aload_n 0, 1) := by decide +kernel
theorem dX11_feed_6 : decode cX11_feed 6 = .ok (.getfield 64, 3) := by decide +kernel
theorem dX11_feed_9 : decode cX11_feed 9 = .ok (.bipush 20, 2) := by decide +kernel
theorem dX11_feed_11 : decode cX11_feed 11 = .ok (.iadd, 1) := by decide +kernel
theorem dX11_feed_12 : decode cX11_feed 12 = .ok (.ldc 9, 2) := by decide +kernel
theorem dX11_feed_14 : decode cX11_feed 14 = .ok (.if_icmp .le 5, 3) := by decide +kernel
theorem dX11_feed_17 : decode cX11_feed 17 = .ok (.iconst (-1), 1) := by decide +kernel
theorem dX11_feed_18 : decode cX11_feed 18 = .ok (.ireturn, 1) := by decide +kernel
theorem dX11_feed_19 : decode cX11_feed 19 = .ok (.aload_n 0, 1) := by decide +kernel
theorem dX11_feed_20 : decode cX11_feed 20 = .ok (.iload_n 1, 1) := by decide +kernel
theorem dX11_feed_21 : decode cX11_feed 21 = .ok (.invokevirtual 67, 3) := by decide +kernel
theorem dX11_feed_24 : decode cX11_feed 24 = .ok (.aload_n 0, 1) := by decide +kernel
theorem dX11_feed_25 : decode cX11_feed 25 = .ok (.iload_n 2, 1) := by decide +kernel
theorem dX11_feed_26 : decode cX11_feed 26 = .ok (.invokevirtual 67, 3) := by decide +kernel
theorem dX11_feed_29 : decode cX11_feed 29 = .ok (.aload_n 0, 1) := by decide +kernel
theorem dX11_feed_30 : decode cX11_feed 30 = .ok (.iload_n 3, 1) := by decide +kernel
theorem dX11_feed_31 : decode cX11_feed 31 = .ok (.invokevirtual 67, 3) := by decide +kernel
theorem dX11_feed_34 : decode cX11_feed 34 = .ok (.aload_n 0, 1) := by decide +kernel
theorem dX11_feed_35 : decode cX11_feed 35 = .ok (.iload 4, 2) := by decide +kernel
theorem dX11_feed_37 : decode cX11_feed 37 = .ok (.invokevirtual 67, 3) := by decide +kernel
theorem dX11_feed_40 : decode cX11_feed 40 = .ok (.aload_n 0, 1) := by decide +kernel
theorem dX11_feed_41 : decode cX11_feed 41 = .ok (.iload 5, 2) := by decide +kernel
theorem dX11_feed_43 : decode cX11_feed 43 = .ok (.invokevirtual 67, 3) := by decide +kernel
theorem dX11_feed_46 : decode cX11_feed 46 = .ok (.aload_n 0, 1) := by decide +kernel
theorem dX11_feed_47 : decode cX11_feed 47 = .ok (.getfield 64, 3) := by decide +kernel
theorem dX11_feed_50 : decode cX11_feed 50 = .ok (.ireturn, 1) := by decide +kernel
theorem dX11_end_0 : decode cX11_end 0 = .ok (.aload_n 0, 1) := by decide +kernel
theorem dX11_end_1 : decode cX11_end 1 = .ok (.iconst 0, 1) := by decide +kernel
theorem dX11_end_2 : decode cX11_end 2 = .ok (.putfield 61, 3) := by decide +kernel
theorem dX11_end_5 : decode cX11_end 5 = .ok (.iload_n 1, 1) := by decide +kernel
theorem dX11_end_6 : decode cX11_end 6 = .ok (.ifCond .lt 11, 3) := by decide +kernel
theorem dX11_end_9 : decode cX11_end 9 = .ok (.iload_n 1, 1) := by decide +kernel
theorem dX11_end_10 : decode cX11_end 10 = .ok (.aload_n 0, 1) := by decide +kernel
theorem dX11_end_11 : decode cX11_end 11 = .ok (.getfield 64, 3) := by decide +kernel
theorem dX11_end_14 : decode cX11_end 14 = .ok (.if_icmp .le 5, 3) := by decide +kernel
theorem dX11_end_17 : decode cX11_end 17 = .ok (.iconst 0, 1) := by decide +kernel
theorem dX11_end_18 : decode cX11_end 18 = .ok (.ireturn, 1) := by decide +kernel
theorem dX11_end_19 : decode cX11_end 19 = .ok (.aload_n 0, 1) := by decide +kernel
theorem dX11_end_20 : decode cX11_end 20 = .ok (.iload_n 1, 1) := by decide +kernel
theorem dX11_end_21 : decode cX11_end 21 = .ok (.putfield 64, 3) := by decide +kernel
theorem dX11_end_24 : decode cX11_end 24 = .ok (.iconst 1, 1) := by decide +kernel
theorem dX11_end_25 : decode cX11_end 25 = .ok (.ireturn, 1) := by decide +kernel
theorem dX11_again_0 : decode cX11_again 0 = .ok (.aload_n 0, 1) := by decide +kernel
theorem dX11_again_1 : decode cX11_again 1 = .ok (.iconst 0, 1) := by decide +kernel
theorem dX11_again_2 : decode cX11_again 2 = .ok (.putfield 61, 3) := by decide +kernel
theorem dX11_again_5 : decode cX11_again 5 = .ok (.aload_n 0, 1) := by decide +kernel
theorem dX11_again_6 : decode cX11_again 6 = .ok (.getfield 71, 3) := by decide +kernel
theorem dX11_again_9 : decode cX11_again 9 = .ok (.ifCond .ne 5, 3) := by decide +kernel
theorem dX11_again_12 : decode cX11_again 12 = .ok (.iconst (-1), 1) := by decide +kernel
theorem dX11_again_13 : decode cX11_again 13 = .ok (.ireturn, 1) := by decide +kernel
theorem dX11_again_14 : decode cX11_again 14 = .ok (.iconst 0, 1) := by decide +kernel
theorem dX11_again_15 : decode cX11_again 15 = .ok (.istore_n 1, 1) := by decide +kernel
theorem dX11_again_16 : decode cX11_again 16 = .ok (.iload_n 1, 1) := by decide +kernel
theorem dX11_again_17 : decode cX11_again 17 = .ok (.aload_n 0, 1) := by decide +kernel
theorem dX11_again_18 : decode cX11_again 18 = .ok (.getfield 75, 3) := by decide +kernel
theorem dX11_again_21 : decode cX11_again 21 = .ok (.if_icmp .ge 21, 3) := by decide +kernel
theorem dX11_again_24 : decode cX11_again 24 = .ok (.aload_n 0, 1) := by decide +kernel
theorem dX11_again_25 : decode cX11_again 25 = .ok (.getfield 10, 3) := by decide +kernel
theorem dX11_again_28 : decode cX11_again 28 = .ok (.iload_n 1, 1) := by decide +kernel
theorem dX11_again_29 : decode cX11_again 29 = .ok (.aload_n 0, 1) := by decide +kernel
theorem dX11_again_30 : decode cX11_again 30 = .ok (.getfield 14, 3) := by decide +kernel
theorem dX11_again_33 : decode cX11_again 33 = .ok (.iload_n 1, 1) := by decide +kernel
theorem dX11_again_34 : decode cX11_again 34 = .ok (.baload, 1) := by decide +kernel
theorem dX11_again_35 : decode cX11_again 35 = .ok (.bastore, 1) := by decide +kernel
theorem dX11_again_36 : decode cX11_again 36 = .ok (.iinc 1 1, 3) := by decide +kernel
theorem dX11_again_39 : decode cX11_again 39 = .ok (.goto (-23), 3) := by decide +kernel
theorem dX11_again_42 : decode cX11_again 42 = .ok (.aload_n 0, 1) := by decide +kernel
theorem dX11_again_43 : decode cX11_again 43 = .ok (.aload_n 0, 1) := by decide +kernel
theorem dX11_again_44 : decode cX11_again 44 = .ok (.getfield 75, 3) := by decide +kernel
theorem dX11_again_47 : decode cX11_again 47 = .ok (.putfield 64, 3) := by decide +kernel
theorem dX11_again_50 : decode cX11_again 50 = .ok (.aload_n 0, 1) := by decide +kernel
theorem dX11_again_51 : decode cX11_again 51 = .ok (.getfield 64, 3) := by decide +kernel
theorem dX11_again_54 : decode cX11_again 54 = .ok (.ireturn, 1) := by decide +kernel
theorem dX11_wrong_0 : decode cX11_wrong 0 = .ok (.aload_n 0, 1) := by decide +kernel
theorem dX11_wrong_1 : decode cX11_wrong 1 = .ok (.iload_n 1, 1) := by decide +kernel
theorem dX11_wrong_2 : decode cX11_wrong 2 = .ok (.putfield 78, 3) := by decide +kernel
theorem dX11_wrong_5 : decode cX11_wrong 5 = .ok (.aload_n 0, 1) := by decide +kernel
theorem dX11_wrong_6 : decode cX11_wrong 6 = .ok (.iload_n 2, 1) := by decide +kernel
theorem dX11_wrong_7 : decode cX11_wrong 7 = .ok (.putfield 81, 3) := by decide +kernel
theorem dX11_wrong_10 : decode cX11_wrong 10 = .ok (.iconst 0, 1) := by decide +kernel
theorem dX11_wrong_11 : decode cX11_wrong 11 = .ok (.ireturn, 1) := by decide +kernel
theorem dX11_want_0 : decode cX11_want 0 = .ok (.aload_n 0, 1) := by decide +kernel
theorem dX11_want_1 : decode cX11_want 1 = .ok (.getfield 84, 3) := by decide +kernel
theorem dX11_want_4 : decode cX11_want 4 = .ok (.iload_n 1, 1) := by decide +kernel
theorem dX11_want_5 : decode cX11_want 5 = .ok (.iadd, 1) := by decide +kernel
theorem dX11_want_6 : decode cX11_want 6 = .ok (.aload_n 0, 1) := by decide +kernel
theorem dX11_want_7 : decode cX11_want 7 = .ok (.getfield 87, 3) := by decide +kernel
theorem dX11_want_10 : decode cX11_want 10 = .ok (.if_icmp .le 15, 3) := by decide +kernel
theorem dX11_want_13 : decode cX11_want 13 = .ok (.aload_n 0, 1) := by decide +kernel
theorem dX11_want_14 : decode cX11_want 14 = .ok (.iconst 1, 1) := by decide +kernel
theorem dX11_want_15 : decode cX11_want 15 = .ok (.aload_n 0, 1) := by decide +kernel
theorem dX11_want_16 : decode cX11_want 16 = .ok (.getfield 87, 3) := by decide +kernel
theorem dX11_want_19 : decode cX11_want 19 = .ok (.invokevirtual 90, 3) := by decide +kernel
theorem dX11_want_22 : decode cX11_want 22 = .ok (.ifCond .eq 7, 3) := by decide +kernel
theorem dX11_want_25 : decode cX11_want 25 = .ok (.iconst 1, 1) := by decide +kernel
theorem dX11_want_26 : decode cX11_want 26 = .ok (.goto 4, 3) := by decide +kernel
theorem dX11_want_29 : decode cX11_want 29 = .ok (.iconst 0, 1) := by decide +kernel
theorem dX11_want_30 : decode cX11_want 30 = .ok (.ireturn, 1) := by decide +kernel
theorem dX11_b_0 : decode cX11_b 0 = .ok (.aload_n 0, 1) := by decide +kernel
theorem dX11_b_1 : decode cX11_b 1 = .ok (.getfield 94, 3) := by decide +kernel
theorem dX11_b_4 : decode cX11_b 4 = .ok (.iload_n 1, 1) := by decide +kernel
theorem dX11_b_5 : decode cX11_b 5 = .ok (.baload, 1) := by decide +kernel
theorem dX11_b_6 : decode cX11_b 6 = .ok (.sipush 255, 3) := by decide +kernel
theorem dX11_b_9 : decode cX11_b 9 = .ok (.iand, 1) := by decide +kernel
theorem dX11_b_10 : decode cX11_b 10 = .ok (.ireturn, 1) := by decide +kernel
theorem dX11_low_0 : decode cX11_low 0 = .ok (.lconst 0, 1) := by decide +kernel
theorem dX11_low_1 : decode cX11_low 1 = .ok (.lstore_n 3, 1) := by decide +kernel
theorem dX11_low_2 : decode cX11_low 2 = .ok (.iload_n 2, 1) := by decide +kernel
theorem dX11_low_3 : decode cX11_low 3 = .ok (.iconst 1, 1) := by decide +kernel
theorem dX11_low_4 : decode cX11_low 4 = .ok (.isub, 1) := by decide +kernel
theorem dX11_low_5 : decode cX11_low 5 = .ok (.istore 5, 2) := by decide +kernel
theorem dX11_low_7 : decode cX11_low 7 = .ok (.iload 5, 2) := by decide +kernel
theorem dX11_low_9 : decode cX11_low 9 = .ok (.ifCond .lt 25, 3) := by decide +kernel
theorem dX11_low_12 : decode cX11_low 12 = .ok (.ldc2_w 97, 3) := by decide +kernel
theorem dX11_low_15 : decode cX11_low 15 = .ok (.lload_n 3, 1) := by decide +kernel
theorem dX11_low_16 : decode cX11_low 16 = .ok (.lmul, 1) := by decide +kernel
theorem dX11_low_17 : decode cX11_low 17 = .ok (.aload_n 0, 1) := by decide +kernel
theorem dX11_low_18 : decode cX11_low 18 = .ok (.iload_n 1, 1) := by decide +kernel
theorem dX11_low_19 : decode cX11_low 19 = .ok (.iload 5, 2) := by decide +kernel
theorem dX11_low_21 : decode cX11_low 21 = .ok (.iadd, 1) := by decide +kernel
theorem dX11_low_22 : decode cX11_low 22 = .ok (.invokevirtual 99, 3) := by decide +kernel
theorem dX11_low_25 : decode cX11_low 25 = .ok (.i2l, 1) := by decide +kernel
theorem dX11_low_26 : decode cX11_low 26 = .ok (.ladd, 1) := by decide +kernel
theorem dX11_low_27 : decode cX11_low 27 = .ok (.lstore_n 3, 1) := by decide +kernel
theorem dX11_low_28 : decode cX11_low 28 = .ok (.iinc 5 (-1), 3) := by decide +kernel
theorem dX11_low_31 : decode cX11_low 31 = .ok (.goto (-24), 3) := by decide +kernel
theorem dX11_low_34 : decode cX11_low 34 = .ok (.lload_n 3, 1) := by decide +kernel
theorem dX11_low_35 : decode cX11_low 35 = .ok (.lreturn, 1) := by decide +kernel
theorem dX11_top_0 : decode cX11_top 0 = .ok (.lconst 0, 1) := by decide +kernel
theorem dX11_top_1 : decode cX11_top 1 = .ok (.lstore_n 3, 1) := by decide +kernel
theorem dX11_top_2 : decode cX11_top 2 = .ok (.iconst 0, 1) := by decide +kernel
theorem dX11_top_3 : decode cX11_top 3 = .ok (.istore 5, 2) := by decide +kernel
theorem dX11_top_5 : decode cX11_top 5 = .ok (.iload 5, 2) := by decide +kernel
theorem dX11_top_7 : decode cX11_top 7 = .ok (.iload_n 2, 1) := by decide +kernel
theorem dX11_top_8 : decode cX11_top 8 = .ok (.if_icmp .ge 25, 3) := by decide +kernel
theorem dX11_top_11 : decode cX11_top 11 = .ok (.ldc2_w 97, 3) := by decide +kernel
theorem dX11_top_14 : decode cX11_top 14 = .ok (.lload_n 3, 1) := by decide +kernel
theorem dX11_top_15 : decode cX11_top 15 = .ok (.lmul, 1) := by decide +kernel
theorem dX11_top_16 : decode cX11_top 16 = .ok (.aload_n 0, 1) := by decide +kernel
theorem dX11_top_17 : decode cX11_top 17 = .ok (.iload_n 1, 1) := by decide +kernel
theorem dX11_top_18 : decode cX11_top 18 = .ok (.iload 5, 2) := by decide +kernel
theorem dX11_top_20 : decode cX11_top 20 = .ok (.iadd, 1) := by decide +kernel
theorem dX11_top_21 : decode cX11_top 21 = .ok (.invokevirtual 99, 3) := by decide +kernel
theorem dX11_top_24 : decode cX11_top 24 = .ok (.i2l, 1) := by decide +kernel
theorem dX11_top_25 : decode cX11_top 25 = .ok (.ladd, 1) := by decide +kernel
theorem dX11_top_26 : decode cX11_top 26 = .ok (.lstore_n 3, 1) := by decide +kernel
theorem dX11_top_27 : decode cX11_top 27 = .ok (.iinc 5 1, 3) := by decide +kernel
theorem dX11_top_30 : decode cX11_top 30 = .ok (.goto (-25), 3) := by decide +kernel
theorem dX11_top_33 : decode cX11_top 33 = .ok (.lload_n 3, 1) := by decide +kernel
theorem dX11_top_34 : decode cX11_top 34 = .ok (.lreturn, 1) := by decide +kernel
theorem dX11_sign_0 : decode cX11_sign 0 = .ok (.aload_n 0, 1) := by decide +kernel
theorem dX11_sign_1 : decode cX11_sign 1 = .ok (.iconst 1, 1) := by decide +kernel
theorem dX11_sign_2 : decode cX11_sign 2 = .ok (.invokevirtual 103, 3) := by decide +kernel
theorem dX11_sign_5 : decode cX11_sign 5 = .ok (.ifCond .ne 5, 3) := by decide +kernel
theorem dX11_sign_8 : decode cX11_sign 8 = .ok (.iconst 0, 1) := by decide +kernel
theorem dX11_sign_9 : decode cX11_sign 9 = .ok (.ireturn, 1) := by decide +kernel
theorem dX11_sign_10 : decode cX11_sign 10 = .ok (.aload_n 0, 1) := by decide +kernel
theorem dX11_sign_11 : decode cX11_sign 11 = .ok (.aload_n 0, 1) := by decide +kernel
theorem dX11_sign_12 : decode cX11_sign 12 = .ok (.getfield 84, 3) := by decide +kernel
theorem dX11_sign_15 : decode cX11_sign 15 = .ok (.invokevirtual 99, 3) := by decide +kernel
theorem dX11_sign_18 : decode cX11_sign 18 = .ok (.iload_n 1, 1) := by decide +kernel
theorem dX11_sign_19 : decode cX11_sign 19 = .ok (.if_icmp .eq 13, 3) := by decide +kernel
theorem dX11_sign_22 : decode cX11_sign 22 = .ok (.aload_n 0, 1) := by decide +kernel
theorem dX11_sign_23 : decode cX11_sign 23 = .ok (.iconst 2, 1) := by decide +kernel
theorem dX11_sign_24 : decode cX11_sign 24 = .ok (.aload_n 0, 1) := by decide +kernel
theorem dX11_sign_25 : decode cX11_sign 25 = .ok (.getfield 84, 3) := by decide +kernel
theorem dX11_sign_28 : decode cX11_sign 28 = .ok (.invokevirtual 90, 3) := by decide +kernel
theorem dX11_sign_31 : decode cX11_sign 31 = .ok (.ireturn, 1) := by decide +kernel
theorem dX11_sign_32 : decode cX11_sign 32 = .ok (.aload_n 0, 1) := by decide +kernel
theorem dX11_sign_33 : decode cX11_sign 33 = .ok (.dup, 1) := by decide +kernel
theorem dX11_sign_34 : decode cX11_sign 34 = .ok (.getfield 84, 3) := by decide +kernel
theorem dX11_sign_37 : decode cX11_sign 37 = .ok (.iconst 1, 1) := by decide +kernel
theorem dX11_sign_38 : decode cX11_sign 38 = .ok (.iadd, 1) := by decide +kernel
theorem dX11_sign_39 : decode cX11_sign 39 = .ok (.putfield 84, 3) := by decide +kernel
theorem dX11_sign_42 : decode cX11_sign 42 = .ok (.iconst 1, 1) := by decide +kernel
theorem dX11_sign_43 : decode cX11_sign 43 = .ok (.ireturn, 1) := by decide +kernel
theorem dX11_fits_0 : decode cX11_fits 0 = .ok (.lload_n 1, 1) := by decide +kernel
theorem dX11_fits_1 : decode cX11_fits 1 = .ok (.ldc2_w 107, 3) := by decide +kernel
theorem dX11_fits_4 : decode cX11_fits 4 = .ok (.lcmp, 1) := by decide +kernel
theorem dX11_fits_5 : decode cX11_fits 5 = .ok (.ifCond .gt 21, 3) := by decide +kernel
theorem dX11_fits_8 : decode cX11_fits 8 = .ok (.lload_n 3, 1) := by decide +kernel
theorem dX11_fits_9 : decode cX11_fits 9 = .ok (.ldc2_w 107, 3) := by decide +kernel
theorem dX11_fits_12 : decode cX11_fits 12 = .ok (.lcmp, 1) := by decide +kernel
theorem dX11_fits_13 : decode cX11_fits 13 = .ok (.ifCond .gt 13, 3) := by decide +kernel
theorem dX11_fits_16 : decode cX11_fits 16 = .ok (.lload_n 1, 1) := by decide +kernel
theorem dX11_fits_17 : decode cX11_fits 17 = .ok (.lload_n 3, 1) := by decide +kernel
theorem dX11_fits_18 : decode cX11_fits 18 = .ok (.lmul, 1) := by decide +kernel
theorem dX11_fits_19 : decode cX11_fits 19 = .ok (.ldc2_w 107, 3) := by decide +kernel
theorem dX11_fits_22 : decode cX11_fits 22 = .ok (.lcmp, 1) := by decide +kernel
theorem dX11_fits_23 : decode cX11_fits 23 = .ok (.ifCond .le 11, 3) := by decide +kernel
theorem dX11_fits_26 : decode cX11_fits 26 = .ok (.aload_n 0, 1) := by decide +kernel
theorem dX11_fits_27 : decode cX11_fits 27 = .ok (.iconst 3, 1) := by decide +kernel
theorem dX11_fits_28 : decode cX11_fits 28 = .ok (.iload 5, 2) := by decide +kernel
theorem dX11_fits_30 : decode cX11_fits 30 = .ok (.invokevirtual 90, 3) := by decide +kernel
theorem dX11_fits_33 : decode cX11_fits 33 = .ok (.ireturn, 1) := by decide +kernel
theorem dX11_fits_34 : decode cX11_fits 34 = .ok (.aload_n 0, 1) := by decide +kernel
theorem dX11_fits_35 : decode cX11_fits 35 = .ok (.lload_n 1, 1) := by decide +kernel
theorem dX11_fits_36 : decode cX11_fits 36 = .ok (.l2i, 1) := by decide +kernel
theorem dX11_fits_37 : decode cX11_fits 37 = .ok (.putfield 109, 3) := by decide +kernel
theorem dX11_fits_40 : decode cX11_fits 40 = .ok (.aload_n 0, 1) := by decide +kernel
theorem dX11_fits_41 : decode cX11_fits 41 = .ok (.lload_n 3, 1) := by decide +kernel
theorem dX11_fits_42 : decode cX11_fits 42 = .ok (.l2i, 1) := by decide +kernel
theorem dX11_fits_43 : decode cX11_fits 43 = .ok (.putfield 112, 3) := by decide +kernel
theorem dX11_fits_46 : decode cX11_fits 46 = .ok (.iconst 1, 1) := by decide +kernel
theorem dX11_fits_47 : decode cX11_fits 47 = .ok (.ireturn, 1) := by decide +kernel
theorem dX11_closes_0 : decode cX11_closes 0 = .ok (.aload_n 0, 1) := by decide +kernel
theorem dX11_closes_1 : decode cX11_closes 1 = .ok (.getfield 84, 3) := by decide +kernel
theorem dX11_closes_4 : decode cX11_closes 4 = .ok (.aload_n 0, 1) := by decide +kernel
theorem dX11_closes_5 : decode cX11_closes 5 = .ok (.getfield 87, 3) := by decide +kernel
theorem dX11_closes_8 : decode cX11_closes 8 = .ok (.if_icmp .eq 15, 3) := by decide +kernel
theorem dX11_closes_11 : decode cX11_closes 11 = .ok (.aload_n 0, 1) := by decide +kernel
theorem dX11_closes_12 : decode cX11_closes 12 = .ok (.iconst 5, 1) := by decide +kernel
theorem dX11_closes_13 : decode cX11_closes 13 = .ok (.aload_n 0, 1) := by decide +kernel
theorem dX11_closes_14 : decode cX11_closes 14 = .ok (.getfield 84, 3) := by decide +kernel
theorem dX11_closes_17 : decode cX11_closes 17 = .ok (.invokevirtual 90, 3) := by decide +kernel
theorem dX11_closes_20 : decode cX11_closes 20 = .ok (.ifCond .eq 7, 3) := by decide +kernel
theorem dX11_closes_23 : decode cX11_closes 23 = .ok (.iconst 1, 1) := by decide +kernel
theorem dX11_closes_24 : decode cX11_closes 24 = .ok (.goto 4, 3) := by decide +kernel
theorem dX11_closes_27 : decode cX11_closes 27 = .ok (.iconst 0, 1) := by decide +kernel
theorem dX11_closes_28 : decode cX11_closes 28 = .ok (.ireturn, 1) := by decide +kernel
theorem dX11_mix_0 : decode cX11_mix 0 = .ok (.iload_n 0, 1) := by decide +kernel
theorem dX11_mix_1 : decode cX11_mix 1 = .ok (.bipush 24, 2) := by decide +kernel
theorem dX11_mix_3 : decode cX11_mix 3 = .ok (.ishl, 1) := by decide +kernel
theorem dX11_mix_4 : decode cX11_mix 4 = .ok (.iload_n 1, 1) := by decide +kernel
theorem dX11_mix_5 : decode cX11_mix 5 = .ok (.bipush 16, 2) := by decide +kernel
theorem dX11_mix_7 : decode cX11_mix 7 = .ok (.ishl, 1) := by decide +kernel
theorem dX11_mix_8 : decode cX11_mix 8 = .ok (.ior, 1) := by decide +kernel
theorem dX11_mix_9 : decode cX11_mix 9 = .ok (.iload_n 2, 1) := by decide +kernel
theorem dX11_mix_10 : decode cX11_mix 10 = .ok (.bipush 8, 2) := by decide +kernel
theorem dX11_mix_12 : decode cX11_mix 12 = .ok (.ishl, 1) := by decide +kernel
theorem dX11_mix_13 : decode cX11_mix 13 = .ok (.ior, 1) := by decide +kernel
theorem dX11_mix_14 : decode cX11_mix 14 = .ok (.iload_n 3, 1) := by decide +kernel
theorem dX11_mix_15 : decode cX11_mix 15 = .ok (.ior, 1) := by decide +kernel
theorem dX11_mix_16 : decode cX11_mix 16 = .ok (.ireturn, 1) := by decide +kernel
theorem dX11_gray_0 : decode cX11_gray 0 = .ok (.iload_n 0, 1) := by decide +kernel
theorem dX11_gray_1 : decode cX11_gray 1 = .ok (.iload_n 0, 1) := by decide +kernel
theorem dX11_gray_2 : decode cX11_gray 2 = .ok (.iload_n 0, 1) := by decide +kernel
theorem dX11_gray_3 : decode cX11_gray 3 = .ok (.sipush 255, 3) := by decide +kernel
theorem dX11_gray_6 : decode cX11_gray 6 = .ok (.invokestatic 115, 3) := by decide +kernel
theorem dX11_gray_9 : decode cX11_gray 9 = .ok (.ireturn, 1) := by decide +kernel
theorem dX11_fifth_0 : decode cX11_fifth 0 = .ok (.sipush 510, 3) := by decide +kernel
theorem dX11_fifth_3 : decode cX11_fifth 3 = .ok (.iload_n 0, 1) := by decide +kernel
theorem dX11_fifth_4 : decode cX11_fifth 4 = .ok (.imul, 1) := by decide +kernel
theorem dX11_fifth_5 : decode cX11_fifth 5 = .ok (.bipush 31, 2) := by decide +kernel
theorem dX11_fifth_7 : decode cX11_fifth 7 = .ok (.iadd, 1) := by decide +kernel
theorem dX11_fifth_8 : decode cX11_fifth 8 = .ok (.bipush 62, 2) := by decide +kernel
theorem dX11_fifth_10 : decode cX11_fifth 10 = .ok (.idiv, 1) := by decide +kernel
theorem dX11_fifth_11 : decode cX11_fifth 11 = .ok (.ireturn, 1) := by decide +kernel
theorem dX11_readChunks_0 : decode cX11_readChunks 0 = .ok (.aload_n 0, 1) := by decide +kernel
theorem dX11_readChunks_1 : decode cX11_readChunks 1 = .ok (.bipush 113, 2) := by decide +kernel
theorem dX11_readChunks_3 : decode cX11_readChunks 3 = .ok (.invokevirtual 119, 3) := by decide +kernel
theorem dX11_readChunks_6 : decode cX11_readChunks 6 = .ok (.ifCond .eq 30, 3) := by decide +kernel
theorem dX11_readChunks_9 : decode cX11_readChunks 9 = .ok (.aload_n 0, 1) := by decide +kernel
theorem dX11_readChunks_10 : decode cX11_readChunks 10 = .ok (.bipush 111, 2) := by decide +kernel
theorem dX11_readChunks_12 : decode cX11_readChunks 12 = .ok (.invokevirtual 119, 3) := by decide +kernel
theorem dX11_readChunks_15 : decode cX11_readChunks 15 = .ok (.ifCond .eq 21, 3) := by decide +kernel
theorem dX11_readChunks_18 : decode cX11_readChunks 18 = .ok (.aload_n 0, 1) := by decide +kernel
theorem dX11_readChunks_19 : decode cX11_readChunks 19 = .ok (.bipush 105, 2) := by decide +kernel
theorem dX11_readChunks_21 : decode cX11_readChunks 21 = .ok (.invokevirtual 119, 3) := by decide +kernel
theorem dX11_readChunks_24 : decode cX11_readChunks 24 = .ok (.ifCond .eq 12, 3) := by decide +kernel
theorem dX11_readChunks_27 : decode cX11_readChunks 27 = .ok (.aload_n 0, 1) := by decide +kernel
theorem dX11_readChunks_28 : decode cX11_readChunks 28 = .ok (.bipush 102, 2) := by decide +kernel
theorem dX11_readChunks_30 : decode cX11_readChunks 30 = .ok (.invokevirtual 119, 3) := by decide +kernel
theorem dX11_readChunks_33 : decode cX11_readChunks 33 = .ok (.ifCond .ne 5, 3) := by decide +kernel
theorem dX11_readChunks_36 : decode cX11_readChunks 36 = .ok (.iconst 0, 1) := by decide +kernel
theorem dX11_readChunks_37 : decode cX11_readChunks 37 = .ok (.ireturn, 1) := by decide +kernel
theorem dX11_readChunks_38 : decode cX11_readChunks 38 = .ok (.aload_n 0, 1) := by decide +kernel
theorem dX11_readChunks_39 : decode cX11_readChunks 39 = .ok (.iconst 4, 1) := by decide +kernel
theorem dX11_readChunks_40 : decode cX11_readChunks 40 = .ok (.invokevirtual 103, 3) := by decide +kernel
theorem dX11_readChunks_43 : decode cX11_readChunks 43 = .ok (.ifCond .ne 5, 3) := by decide +kernel
theorem dX11_readChunks_46 : decode cX11_readChunks 46 = .ok (.iconst 0, 1) := by decide +kernel
theorem dX11_readChunks_47 : decode cX11_readChunks 47 = .ok (.ireturn, 1) := by decide +kernel
theorem dX11_readChunks_48 : decode cX11_readChunks 48 = .ok (.aload_n 0, 1) := by decide +kernel
theorem dX11_readChunks_49 : decode cX11_readChunks 49 = .ok (.aload_n 0, 1) := by decide +kernel
theorem dX11_readChunks_50 : decode cX11_readChunks 50 = .ok (.getfield 84, 3) := by decide +kernel
theorem dX11_readChunks_53 : decode cX11_readChunks 53 = .ok (.iconst 4, 1) := by decide +kernel
theorem dX11_readChunks_54 : decode cX11_readChunks 54 = .ok (.invokevirtual 122, 3) := by decide +kernel
theorem dX11_readChunks_57 : decode cX11_readChunks 57 = .ok (.lstore_n 1, 1) := by decide +kernel
theorem dX11_readChunks_58 : decode cX11_readChunks 58 = .ok (.lload_n 1, 1) := by decide +kernel
theorem dX11_readChunks_59 : decode cX11_readChunks 59 = .ok (.lconst 0, 1) := by decide +kernel
theorem dX11_readChunks_60 : decode cX11_readChunks 60 = .ok (.lcmp, 1) := by decide +kernel
theorem dX11_readChunks_61 : decode cX11_readChunks 61 = .ok (.ifCond .ne 13, 3) := by decide +kernel
theorem dX11_readChunks_64 : decode cX11_readChunks 64 = .ok (.aload_n 0, 1) := by decide +kernel
theorem dX11_readChunks_65 : decode cX11_readChunks 65 = .ok (.iconst 2, 1) := by decide +kernel
theorem dX11_readChunks_66 : decode cX11_readChunks 66 = .ok (.aload_n 0, 1) := by decide +kernel
theorem dX11_readChunks_67 : decode cX11_readChunks 67 = .ok (.getfield 84, 3) := by decide +kernel
theorem dX11_readChunks_70 : decode cX11_readChunks 70 = .ok (.invokevirtual 90, 3) := by decide +kernel
theorem dX11_readChunks_73 : decode cX11_readChunks 73 = .ok (.ireturn, 1) := by decide +kernel
theorem dX11_readChunks_74 : decode cX11_readChunks 74 = .ok (.aload_n 0, 1) := by decide +kernel
theorem dX11_readChunks_75 : decode cX11_readChunks 75 = .ok (.dup, 1) := by decide +kernel
theorem dX11_readChunks_76 : decode cX11_readChunks 76 = .ok (.getfield 84, 3) := by decide +kernel
theorem dX11_readChunks_79 : decode cX11_readChunks 79 = .ok (.iconst 4, 1) := by decide +kernel
theorem dX11_readChunks_80 : decode cX11_readChunks 80 = .ok (.iadd, 1) := by decide +kernel
theorem dX11_readChunks_81 : decode cX11_readChunks 81 = .ok (.putfield 84, 3) := by decide +kernel
theorem dX11_readChunks_84 : decode cX11_readChunks 84 = .ok (.aload_n 0, 1) := by decide +kernel
theorem dX11_readChunks_85 : decode cX11_readChunks 85 = .ok (.iconst 4, 1) := by decide +kernel
theorem dX11_readChunks_86 : decode cX11_readChunks 86 = .ok (.invokevirtual 103, 3) := by decide +kernel
theorem dX11_readChunks_89 : decode cX11_readChunks 89 = .ok (.ifCond .ne 5, 3) := by decide +kernel
theorem dX11_readChunks_92 : decode cX11_readChunks 92 = .ok (.iconst 0, 1) := by decide +kernel
theorem dX11_readChunks_93 : decode cX11_readChunks 93 = .ok (.ireturn, 1) := by decide +kernel
theorem dX11_readChunks_94 : decode cX11_readChunks 94 = .ok (.aload_n 0, 1) := by decide +kernel
theorem dX11_readChunks_95 : decode cX11_readChunks 95 = .ok (.aload_n 0, 1) := by decide +kernel
theorem dX11_readChunks_96 : decode cX11_readChunks 96 = .ok (.getfield 84, 3) := by decide +kernel
theorem dX11_readChunks_99 : decode cX11_readChunks 99 = .ok (.iconst 4, 1) := by decide +kernel
theorem dX11_readChunks_100 : decode cX11_readChunks 100 = .ok (.invokevirtual 122, 3) := by decide +kernel
theorem dX11_readChunks_103 : decode cX11_readChunks 103 = .ok (.lstore_n 3, 1) := by decide +kernel
theorem dX11_readChunks_104 : decode cX11_readChunks 104 = .ok (.lload_n 3, 1) := by decide +kernel
theorem dX11_readChunks_105 : decode cX11_readChunks 105 = .ok (.lconst 0, 1) := by decide +kernel
theorem dX11_readChunks_106 : decode cX11_readChunks 106 = .ok (.lcmp, 1) := by decide +kernel
theorem dX11_readChunks_107 : decode cX11_readChunks 107 = .ok (.ifCond .ne 13, 3) := by decide +kernel
theorem dX11_readChunks_110 : decode cX11_readChunks 110 = .ok (.aload_n 0, 1) := by decide +kernel
theorem dX11_readChunks_111 : decode cX11_readChunks 111 = .ok (.iconst 2, 1) := by decide +kernel
theorem dX11_readChunks_112 : decode cX11_readChunks 112 = .ok (.aload_n 0, 1) := by decide +kernel
theorem dX11_readChunks_113 : decode cX11_readChunks 113 = .ok (.getfield 84, 3) := by decide +kernel
theorem dX11_readChunks_116 : decode cX11_readChunks 116 = .ok (.invokevirtual 90, 3) := by decide +kernel
theorem dX11_readChunks_119 : decode cX11_readChunks 119 = .ok (.ireturn, 1) := by decide +kernel
theorem dX11_readChunks_120 : decode cX11_readChunks 120 = .ok (.aload_n 0, 1) := by decide +kernel
theorem dX11_readChunks_121 : decode cX11_readChunks 121 = .ok (.lload_n 1, 1) := by decide +kernel
theorem dX11_readChunks_122 : decode cX11_readChunks 122 = .ok (.lload_n 3, 1) := by decide +kernel
theorem dX11_readChunks_123 : decode cX11_readChunks 123 = .ok (.aload_n 0, 1) := by decide +kernel
theorem dX11_readChunks_124 : decode cX11_readChunks 124 = .ok (.getfield 84, 3) := by decide +kernel
theorem dX11_readChunks_127 : decode cX11_readChunks 127 = .ok (.invokevirtual 126, 3) := by decide +kernel
theorem dX11_readChunks_130 : decode cX11_readChunks 130 = .ok (.ifCond .ne 5, 3) := by decide +kernel
theorem dX11_readChunks_133 : decode cX11_readChunks 133 = .ok (.iconst 0, 1) := by decide +kernel
theorem dX11_readChunks_134 : decode cX11_readChunks 134 = .ok (.ireturn, 1) := by decide +kernel
theorem dX11_readChunks_135 : decode cX11_readChunks 135 = .ok (.aload_n 0, 1) := by decide +kernel
theorem dX11_readChunks_136 : decode cX11_readChunks 136 = .ok (.dup, 1) := by decide +kernel
theorem dX11_readChunks_137 : decode cX11_readChunks 137 = .ok (.getfield 84, 3) := by decide +kernel
theorem dX11_readChunks_140 : decode cX11_readChunks 140 = .ok (.iconst 4, 1) := by decide +kernel
theorem dX11_readChunks_141 : decode cX11_readChunks 141 = .ok (.iadd, 1) := by decide +kernel
theorem dX11_readChunks_142 : decode cX11_readChunks 142 = .ok (.putfield 84, 3) := by decide +kernel
theorem dX11_readChunks_145 : decode cX11_readChunks 145 = .ok (.aload_n 0, 1) := by decide +kernel
theorem dX11_readChunks_146 : decode cX11_readChunks 146 = .ok (.iconst 1, 1) := by decide +kernel
theorem dX11_readChunks_147 : decode cX11_readChunks 147 = .ok (.invokevirtual 103, 3) := by decide +kernel
theorem dX11_readChunks_150 : decode cX11_readChunks 150 = .ok (.ifCond .ne 5, 3) := by decide +kernel
theorem dX11_readChunks_153 : decode cX11_readChunks 153 = .ok (.iconst 0, 1) := by decide +kernel
theorem dX11_readChunks_154 : decode cX11_readChunks 154 = .ok (.ireturn, 1) := by decide +kernel
theorem dX11_readChunks_155 : decode cX11_readChunks 155 = .ok (.aload_n 0, 1) := by decide +kernel
theorem dX11_readChunks_156 : decode cX11_readChunks 156 = .ok (.aload_n 0, 1) := by decide +kernel
theorem dX11_readChunks_157 : decode cX11_readChunks 157 = .ok (.aload_n 0, 1) := by decide +kernel
theorem dX11_readChunks_158 : decode cX11_readChunks 158 = .ok (.getfield 84, 3) := by decide +kernel
theorem dX11_readChunks_161 : decode cX11_readChunks 161 = .ok (.invokevirtual 99, 3) := by decide +kernel
theorem dX11_readChunks_164 : decode cX11_readChunks 164 = .ok (.putfield 130, 3) := by decide +kernel
theorem dX11_readChunks_167 : decode cX11_readChunks 167 = .ok (.aload_n 0, 1) := by decide +kernel
theorem dX11_readChunks_168 : decode cX11_readChunks 168 = .ok (.getfield 130, 3) := by decide +kernel
theorem dX11_readChunks_171 : decode cX11_readChunks 171 = .ok (.iconst 3, 1) := by decide +kernel
theorem dX11_readChunks_172 : decode cX11_readChunks 172 = .ok (.if_icmp .eq 21, 3) := by decide +kernel
theorem dX11_readChunks_175 : decode cX11_readChunks 175 = .ok (.aload_n 0, 1) := by decide +kernel
theorem dX11_readChunks_176 : decode cX11_readChunks 176 = .ok (.getfield 130, 3) := by decide +kernel
theorem dX11_readChunks_179 : decode cX11_readChunks 179 = .ok (.iconst 4, 1) := by decide +kernel
theorem dX11_readChunks_180 : decode cX11_readChunks 180 = .ok (.if_icmp .eq 13, 3) := by decide +kernel
theorem dX11_readChunks_183 : decode cX11_readChunks 183 = .ok (.aload_n 0, 1) := by decide +kernel
theorem dX11_readChunks_184 : decode cX11_readChunks 184 = .ok (.iconst 2, 1) := by decide +kernel
theorem dX11_readChunks_185 : decode cX11_readChunks 185 = .ok (.aload_n 0, 1) := by decide +kernel
theorem dX11_readChunks_186 : decode cX11_readChunks 186 = .ok (.getfield 84, 3) := by decide +kernel
theorem dX11_readChunks_189 : decode cX11_readChunks 189 = .ok (.invokevirtual 90, 3) := by decide +kernel
theorem dX11_readChunks_192 : decode cX11_readChunks 192 = .ok (.ireturn, 1) := by decide +kernel
theorem dX11_readChunks_193 : decode cX11_readChunks 193 = .ok (.aload_n 0, 1) := by decide +kernel
theorem dX11_readChunks_194 : decode cX11_readChunks 194 = .ok (.dup, 1) := by decide +kernel
theorem dX11_readChunks_195 : decode cX11_readChunks 195 = .ok (.getfield 84, 3) := by decide +kernel
theorem dX11_readChunks_198 : decode cX11_readChunks 198 = .ok (.iconst 1, 1) := by decide +kernel
theorem dX11_readChunks_199 : decode cX11_readChunks 199 = .ok (.iadd, 1) := by decide +kernel
theorem dX11_readChunks_200 : decode cX11_readChunks 200 = .ok (.putfield 84, 3) := by decide +kernel
theorem dX11_readChunks_203 : decode cX11_readChunks 203 = .ok (.aload_n 0, 1) := by decide +kernel
theorem dX11_readChunks_204 : decode cX11_readChunks 204 = .ok (.iconst 1, 1) := by decide +kernel
theorem dX11_readChunks_205 : decode cX11_readChunks 205 = .ok (.invokevirtual 103, 3) := by decide +kernel
theorem dX11_readChunks_208 : decode cX11_readChunks 208 = .ok (.ifCond .ne 5, 3) := by decide +kernel
theorem dX11_readChunks_211 : decode cX11_readChunks 211 = .ok (.iconst 0, 1) := by decide +kernel
theorem dX11_readChunks_212 : decode cX11_readChunks 212 = .ok (.ireturn, 1) := by decide +kernel
theorem dX11_readChunks_213 : decode cX11_readChunks 213 = .ok (.aload_n 0, 1) := by decide +kernel
theorem dX11_readChunks_214 : decode cX11_readChunks 214 = .ok (.aload_n 0, 1) := by decide +kernel
theorem dX11_readChunks_215 : decode cX11_readChunks 215 = .ok (.aload_n 0, 1) := by decide +kernel
theorem dX11_readChunks_216 : decode cX11_readChunks 216 = .ok (.getfield 84, 3) := by decide +kernel
theorem dX11_readChunks_219 : decode cX11_readChunks 219 = .ok (.invokevirtual 99, 3) := by decide +kernel
theorem dX11_readChunks_222 : decode cX11_readChunks 222 = .ok (.putfield 133, 3) := by decide +kernel
theorem dX11_readChunks_225 : decode cX11_readChunks 225 = .ok (.aload_n 0, 1) := by decide +kernel
theorem dX11_readChunks_226 : decode cX11_readChunks 226 = .ok (.getfield 133, 3) := by decide +kernel
theorem dX11_readChunks_229 : decode cX11_readChunks 229 = .ok (.iconst 1, 1) := by decide +kernel
theorem dX11_readChunks_230 : decode cX11_readChunks 230 = .ok (.if_icmp .le 13, 3) := by decide +kernel
theorem dX11_readChunks_233 : decode cX11_readChunks 233 = .ok (.aload_n 0, 1) := by decide +kernel
theorem dX11_readChunks_234 : decode cX11_readChunks 234 = .ok (.iconst 2, 1) := by decide +kernel
theorem dX11_readChunks_235 : decode cX11_readChunks 235 = .ok (.aload_n 0, 1) := by decide +kernel
theorem dX11_readChunks_236 : decode cX11_readChunks 236 = .ok (.getfield 84, 3) := by decide +kernel
theorem dX11_readChunks_239 : decode cX11_readChunks 239 = .ok (.invokevirtual 90, 3) := by decide +kernel
theorem dX11_readChunks_242 : decode cX11_readChunks 242 = .ok (.ireturn, 1) := by decide +kernel
theorem dX11_readChunks_243 : decode cX11_readChunks 243 = .ok (.aload_n 0, 1) := by decide +kernel
theorem dX11_readChunks_244 : decode cX11_readChunks 244 = .ok (.dup, 1) := by decide +kernel
theorem dX11_readChunks_245 : decode cX11_readChunks 245 = .ok (.getfield 84, 3) := by decide +kernel
theorem dX11_readChunks_248 : decode cX11_readChunks 248 = .ok (.iconst 1, 1) := by decide +kernel
theorem dX11_readChunks_249 : decode cX11_readChunks 249 = .ok (.iadd, 1) := by decide +kernel
theorem dX11_readChunks_250 : decode cX11_readChunks 250 = .ok (.putfield 84, 3) := by decide +kernel
theorem dX11_readChunks_253 : decode cX11_readChunks 253 = .ok (.aload_n 0, 1) := by decide +kernel
theorem dX11_readChunks_254 : decode cX11_readChunks 254 = .ok (.iconst 0, 1) := by decide +kernel
theorem dX11_readChunks_255 : decode cX11_readChunks 255 = .ok (.putfield 136, 3) := by decide +kernel
theorem dX11_readChunks_258 : decode cX11_readChunks 258 = .ok (.iconst 0, 1) := by decide +kernel
theorem dX11_readChunks_259 : decode cX11_readChunks 259 = .ok (.istore 5, 2) := by decide +kernel
theorem dX11_readChunks_261 : decode cX11_readChunks 261 = .ok (.iload 5, 2) := by decide +kernel
theorem dX11_readChunks_263 : decode cX11_readChunks 263 = .ok (.bipush 64, 2) := by decide +kernel
theorem dX11_readChunks_265 : decode cX11_readChunks 265 = .ok (.if_icmp .ge 17, 3) := by decide +kernel
theorem dX11_readChunks_268 : decode cX11_readChunks 268 = .ok (.aload_n 0, 1) := by decide +kernel
theorem dX11_readChunks_269 : decode cX11_readChunks 269 = .ok (.getfield 46, 3) := by decide +kernel
theorem dX11_readChunks_272 : decode cX11_readChunks 272 = .ok (.iload 5, 2) := by decide +kernel
theorem dX11_readChunks_274 : decode cX11_readChunks 274 = .ok (.iconst 0, 1) := by decide +kernel
theorem dX11_readChunks_275 : decode cX11_readChunks 275 = .ok (.iastore, 1) := by decide +kernel
theorem dX11_readChunks_276 : decode cX11_readChunks 276 = .ok (.iinc 5 1, 3) := by decide +kernel
theorem dX11_readChunks_279 : decode cX11_readChunks 279 = .ok (.goto (-18), 3) := by decide +kernel
theorem dX11_readChunks_282 : decode cX11_readChunks 282 = .ok (.aload_n 0, 1) := by decide +kernel
theorem dX11_readChunks_283 : decode cX11_readChunks 283 = .ok (.getfield 109, 3) := by decide +kernel
theorem dX11_readChunks_286 : decode cX11_readChunks 286 = .ok (.aload_n 0, 1) := by decide +kernel
theorem dX11_readChunks_287 : decode cX11_readChunks 287 = .ok (.getfield 112, 3) := by decide +kernel
theorem dX11_readChunks_290 : decode cX11_readChunks 290 = .ok (.imul, 1) := by decide +kernel
theorem dX11_readChunks_291 : decode cX11_readChunks 291 = .ok (.istore 5, 2) := by decide +kernel
theorem dX11_readChunks_293 : decode cX11_readChunks 293 = .ok (.sipush 255, 3) := by decide +kernel
theorem dX11_readChunks_296 : decode cX11_readChunks 296 = .ok (.istore 6, 2) := by decide +kernel
theorem dX11_readChunks_298 : decode cX11_readChunks 298 = .ok (.iconst (-1), 1) := by decide +kernel
theorem dX11_readChunks_299 : decode cX11_readChunks 299 = .ok (.istore 7, 2) := by decide +kernel
theorem dX11_readChunks_301 : decode cX11_readChunks 301 = .ok (.iconst 0, 1) := by decide +kernel
theorem dX11_readChunks_302 : decode cX11_readChunks 302 = .ok (.istore 8, 2) := by decide +kernel
theorem dX11_readChunks_304 : decode cX11_readChunks 304 = .ok (.iload 8, 2) := by decide +kernel
theorem dX11_readChunks_306 : decode cX11_readChunks 306 = .ok (.iload 5, 2) := by decide +kernel
theorem dX11_readChunks_308 : decode cX11_readChunks 308 = .ok (.if_icmp .ge 380, 3) := by decide +kernel
theorem dX11_readChunks_311 : decode cX11_readChunks 311 = .ok (.aload_n 0, 1) := by decide +kernel
theorem dX11_readChunks_312 : decode cX11_readChunks 312 = .ok (.iconst 1, 1) := by decide +kernel
theorem dX11_readChunks_313 : decode cX11_readChunks 313 = .ok (.invokevirtual 103, 3) := by decide +kernel
theorem dX11_readChunks_316 : decode cX11_readChunks 316 = .ok (.ifCond .ne 5, 3) := by decide +kernel
theorem dX11_readChunks_319 : decode cX11_readChunks 319 = .ok (.iconst 0, 1) := by decide +kernel
theorem dX11_readChunks_320 : decode cX11_readChunks 320 = .ok (.ireturn, 1) := by decide +kernel
theorem dX11_readChunks_321 : decode cX11_readChunks 321 = .ok (.aload_n 0, 1) := by decide +kernel
theorem dX11_readChunks_322 : decode cX11_readChunks 322 = .ok (.getfield 84, 3) := by decide +kernel
theorem dX11_readChunks_325 : decode cX11_readChunks 325 = .ok (.istore 9, 2) := by decide +kernel
theorem dX11_readChunks_327 : decode cX11_readChunks 327 = .ok (.aload_n 0, 1) := by decide +kernel
theorem dX11_readChunks_328 : decode cX11_readChunks 328 = .ok (.aload_n 0, 1) := by decide +kernel
theorem dX11_readChunks_329 : decode cX11_readChunks 329 = .ok (.getfield 84, 3) := by decide +kernel
theorem dX11_readChunks_332 : decode cX11_readChunks 332 = .ok (.invokevirtual 99, 3) := by decide +kernel
theorem dX11_readChunks_335 : decode cX11_readChunks 335 = .ok (.istore 10, 2) := by decide +kernel
theorem dX11_readChunks_337 : decode cX11_readChunks 337 = .ok (.aload_n 0, 1) := by decide +kernel
theorem dX11_readChunks_338 : decode cX11_readChunks 338 = .ok (.dup, 1) := by decide +kernel
theorem dX11_readChunks_339 : decode cX11_readChunks 339 = .ok (.getfield 84, 3) := by decide +kernel
theorem dX11_readChunks_342 : decode cX11_readChunks 342 = .ok (.iconst 1, 1) := by decide +kernel
theorem dX11_readChunks_343 : decode cX11_readChunks 343 = .ok (.iadd, 1) := by decide +kernel
theorem dX11_readChunks_344 : decode cX11_readChunks 344 = .ok (.putfield 84, 3) := by decide +kernel
theorem dX11_readChunks_347 : decode cX11_readChunks 347 = .ok (.iconst 1, 1) := by decide +kernel
theorem dX11_readChunks_348 : decode cX11_readChunks 348 = .ok (.istore 11, 2) := by decide +kernel
theorem dX11_readChunks_350 : decode cX11_readChunks 350 = .ok (.iload 10, 2) := by decide +kernel
theorem dX11_readChunks_352 : decode cX11_readChunks 352 = .ok (.sipush 254, 3) := by decide +kernel
theorem dX11_readChunks_355 : decode cX11_readChunks 355 = .ok (.if_icmp .lt 94, 3) := by decide +kernel
theorem dX11_readChunks_358 : decode cX11_readChunks 358 = .ok (.iload 10, 2) := by decide +kernel
theorem dX11_readChunks_360 : decode cX11_readChunks 360 = .ok (.sipush 251, 3) := by decide +kernel
theorem dX11_readChunks_363 : decode cX11_readChunks 363 = .ok (.isub, 1) := by decide +kernel
theorem dX11_readChunks_364 : decode cX11_readChunks 364 = .ok (.istore 12, 2) := by decide +kernel
theorem dX11_readChunks_366 : decode cX11_readChunks 366 = .ok (.aload_n 0, 1) := by decide +kernel
theorem dX11_readChunks_367 : decode cX11_readChunks 367 = .ok (.iload 12, 2) := by decide +kernel
theorem dX11_readChunks_369 : decode cX11_readChunks 369 = .ok (.invokevirtual 103, 3) := by decide +kernel
theorem dX11_readChunks_372 : decode cX11_readChunks 372 = .ok (.ifCond .ne 5, 3) := by decide +kernel
theorem dX11_readChunks_375 : decode cX11_readChunks 375 = .ok (.iconst 0, 1) := by decide +kernel
theorem dX11_readChunks_376 : decode cX11_readChunks 376 = .ok (.ireturn, 1) := by decide +kernel
theorem dX11_readChunks_377 : decode cX11_readChunks 377 = .ok (.aload_n 0, 1) := by decide +kernel
theorem dX11_readChunks_378 : decode cX11_readChunks 378 = .ok (.aload_n 0, 1) := by decide +kernel
theorem dX11_readChunks_379 : decode cX11_readChunks 379 = .ok (.getfield 84, 3) := by decide +kernel
theorem dX11_readChunks_382 : decode cX11_readChunks 382 = .ok (.invokevirtual 99, 3) := by decide +kernel
theorem dX11_readChunks_385 : decode cX11_readChunks 385 = .ok (.aload_n 0, 1) := by decide +kernel
theorem dX11_readChunks_386 : decode cX11_readChunks 386 = .ok (.aload_n 0, 1) := by decide +kernel
theorem dX11_readChunks_387 : decode cX11_readChunks 387 = .ok (.getfield 84, 3) := by decide +kernel
theorem dX11_readChunks_390 : decode cX11_readChunks 390 = .ok (.iconst 1, 1) := by decide +kernel
theorem dX11_readChunks_391 : decode cX11_readChunks 391 = .ok (.iadd, 1) := by decide +kernel
theorem dX11_readChunks_392 : decode cX11_readChunks 392 = .ok (.invokevirtual 99, 3) := by decide +kernel
theorem dX11_readChunks_395 : decode cX11_readChunks 395 = .ok (.aload_n 0, 1) := by decide +kernel
theorem dX11_readChunks_396 : decode cX11_readChunks 396 = .ok (.aload_n 0, 1) := by decide +kernel
theorem dX11_readChunks_397 : decode cX11_readChunks 397 = .ok (.getfield 84, 3) := by decide +kernel
theorem dX11_readChunks_400 : decode cX11_readChunks 400 = .ok (.iconst 2, 1) := by decide +kernel
theorem dX11_readChunks_401 : decode cX11_readChunks 401 = .ok (.iadd, 1) := by decide +kernel
theorem dX11_readChunks_402 : decode cX11_readChunks 402 = .ok (.invokevirtual 99, 3) := by decide +kernel
theorem dX11_readChunks_405 : decode cX11_readChunks 405 = .ok (.iload 12, 2) := by decide +kernel
theorem dX11_readChunks_407 : decode cX11_readChunks 407 = .ok (.iconst 4, 1) := by decide +kernel
theorem dX11_readChunks_408 : decode cX11_readChunks 408 = .ok (.if_icmp .ne 16, 3) := by decide +kernel
theorem dX11_readChunks_411 : decode cX11_readChunks 411 = .ok (.aload_n 0, 1) := by decide +kernel
theorem dX11_readChunks_412 : decode cX11_readChunks 412 = .ok (.aload_n 0, 1) := by decide +kernel
theorem dX11_readChunks_413 : decode cX11_readChunks 413 = .ok (.getfield 84, 3) := by decide +kernel
theorem dX11_readChunks_416 : decode cX11_readChunks 416 = .ok (.iconst 3, 1) := by decide +kernel
theorem dX11_readChunks_417 : decode cX11_readChunks 417 = .ok (.iadd, 1) := by decide +kernel
theorem dX11_readChunks_418 : decode cX11_readChunks 418 = .ok (.invokevirtual 99, 3) := by decide +kernel
theorem dX11_readChunks_421 : decode cX11_readChunks 421 = .ok (.goto 9, 3) := by decide +kernel
theorem dX11_readChunks_424 : decode cX11_readChunks 424 = .ok (.iload 6, 2) := by decide +kernel
theorem dX11_readChunks_426 : decode cX11_readChunks 426 = .ok (.sipush 255, 3) := by decide +kernel
theorem dX11_readChunks_429 : decode cX11_readChunks 429 = .ok (.iand, 1) := by decide +kernel
theorem dX11_readChunks_430 : decode cX11_readChunks 430 = .ok (.invokestatic 115, 3) := by decide +kernel
theorem dX11_readChunks_433 : decode cX11_readChunks 433 = .ok (.istore 6, 2) := by decide +kernel
theorem dX11_readChunks_435 : decode cX11_readChunks 435 = .ok (.aload_n 0, 1) := by decide +kernel
theorem dX11_readChunks_436 : decode cX11_readChunks 436 = .ok (.dup, 1) := by decide +kernel
theorem dX11_readChunks_437 : decode cX11_readChunks 437 = .ok (.getfield 84, 3) := by decide +kernel
theorem dX11_readChunks_440 : decode cX11_readChunks 440 = .ok (.iload 12, 2) := by decide +kernel
theorem dX11_readChunks_442 : decode cX11_readChunks 442 = .ok (.iadd, 1) := by decide +kernel
theorem dX11_readChunks_443 : decode cX11_readChunks 443 = .ok (.putfield 84, 3) := by decide +kernel
theorem dX11_readChunks_446 : decode cX11_readChunks 446 = .ok (.goto 185, 3) := by decide +kernel
theorem dX11_readChunks_449 : decode cX11_readChunks 449 = .ok (.iload 10, 2) := by decide +kernel
theorem dX11_readChunks_451 : decode cX11_readChunks 451 = .ok (.bipush 64, 2) := by decide +kernel
theorem dX11_readChunks_453 : decode cX11_readChunks 453 = .ok (.if_icmp .ge 30, 3) := by decide +kernel
theorem dX11_readChunks_456 : decode cX11_readChunks 456 = .ok (.iload 7, 2) := by decide +kernel
theorem dX11_readChunks_458 : decode cX11_readChunks 458 = .ok (.iload 10, 2) := by decide +kernel
theorem dX11_readChunks_460 : decode cX11_readChunks 460 = .ok (.if_icmp .ne 11, 3) := by decide +kernel
theorem dX11_readChunks_463 : decode cX11_readChunks 463 = .ok (.aload_n 0, 1) := by decide +kernel
theorem dX11_readChunks_464 : decode cX11_readChunks 464 = .ok (.iconst 4, 1) := by decide +kernel
theorem dX11_readChunks_465 : decode cX11_readChunks 465 = .ok (.iload 9, 2) := by decide +kernel
theorem dX11_readChunks_467 : decode cX11_readChunks 467 = .ok (.invokevirtual 90, 3) := by decide +kernel
theorem dX11_readChunks_470 : decode cX11_readChunks 470 = .ok (.ireturn, 1) := by decide +kernel
theorem dX11_readChunks_471 : decode cX11_readChunks 471 = .ok (.aload_n 0, 1) := by decide +kernel
theorem dX11_readChunks_472 : decode cX11_readChunks 472 = .ok (.getfield 46, 3) := by decide +kernel
theorem dX11_readChunks_475 : decode cX11_readChunks 475 = .ok (.iload 10, 2) := by decide +kernel
theorem dX11_readChunks_477 : decode cX11_readChunks 477 = .ok (.iaload, 1) := by decide +kernel
theorem dX11_readChunks_478 : decode cX11_readChunks 478 = .ok (.istore 6, 2) := by decide +kernel
theorem dX11_readChunks_480 : decode cX11_readChunks 480 = .ok (.goto 151, 3) := by decide +kernel
theorem dX11_readChunks_483 : decode cX11_readChunks 483 = .ok (.iload 10, 2) := by decide +kernel
theorem dX11_readChunks_485 : decode cX11_readChunks 485 = .ok (.sipush 128, 3) := by decide +kernel
theorem dX11_readChunks_488 : decode cX11_readChunks 488 = .ok (.if_icmp .ge 35, 3) := by decide +kernel
theorem dX11_readChunks_491 : decode cX11_readChunks 491 = .ok (.iload 6, 2) := by decide +kernel
theorem dX11_readChunks_493 : decode cX11_readChunks 493 = .ok (.iload 10, 2) := by decide +kernel
theorem dX11_readChunks_495 : decode cX11_readChunks 495 = .ok (.iconst 4, 1) := by decide +kernel
theorem dX11_readChunks_496 : decode cX11_readChunks 496 = .ok (.ishr, 1) := by decide +kernel
theorem dX11_readChunks_497 : decode cX11_readChunks 497 = .ok (.iconst 3, 1) := by decide +kernel
theorem dX11_readChunks_498 : decode cX11_readChunks 498 = .ok (.iand, 1) := by decide +kernel
theorem dX11_readChunks_499 : decode cX11_readChunks 499 = .ok (.iconst 2, 1) := by decide +kernel
theorem dX11_readChunks_500 : decode cX11_readChunks 500 = .ok (.isub, 1) := by decide +kernel
theorem dX11_readChunks_501 : decode cX11_readChunks 501 = .ok (.iload 10, 2) := by decide +kernel
theorem dX11_readChunks_503 : decode cX11_readChunks 503 = .ok (.iconst 2, 1) := by decide +kernel
theorem dX11_readChunks_504 : decode cX11_readChunks 504 = .ok (.ishr, 1) := by decide +kernel
theorem dX11_readChunks_505 : decode cX11_readChunks 505 = .ok (.iconst 3, 1) := by decide +kernel
theorem dX11_readChunks_506 : decode cX11_readChunks 506 = .ok (.iand, 1) := by decide +kernel
theorem dX11_readChunks_507 : decode cX11_readChunks 507 = .ok (.iconst 2, 1) := by decide +kernel
theorem dX11_readChunks_508 : decode cX11_readChunks 508 = .ok (.isub, 1) := by decide +kernel
theorem dX11_readChunks_509 : decode cX11_readChunks 509 = .ok (.iload 10, 2) := by decide +kernel
theorem dX11_readChunks_511 : decode cX11_readChunks 511 = .ok (.iconst 3, 1) := by decide +kernel
theorem dX11_readChunks_512 : decode cX11_readChunks 512 = .ok (.iand, 1) := by decide +kernel
theorem dX11_readChunks_513 : decode cX11_readChunks 513 = .ok (.iconst 2, 1) := by decide +kernel
theorem dX11_readChunks_514 : decode cX11_readChunks 514 = .ok (.isub, 1) := by decide +kernel
theorem dX11_readChunks_515 : decode cX11_readChunks 515 = .ok (.invokestatic 139, 3) := by decide +kernel
theorem dX11_readChunks_518 : decode cX11_readChunks 518 = .ok (.istore 6, 2) := by decide +kernel
theorem dX11_readChunks_520 : decode cX11_readChunks 520 = .ok (.goto 111, 3) := by decide +kernel
theorem dX11_readChunks_523 : decode cX11_readChunks 523 = .ok (.iload 10, 2) := by decide +kernel
theorem dX11_readChunks_525 : decode cX11_readChunks 525 = .ok (.sipush 192, 3) := by decide +kernel
theorem dX11_readChunks_528 : decode cX11_readChunks 528 = .ok (.if_icmp .ge 76, 3) := by decide +kernel
theorem dX11_readChunks_531 : decode cX11_readChunks 531 = .ok (.aload_n 0, 1) := by decide +kernel
theorem dX11_readChunks_532 : decode cX11_readChunks 532 = .ok (.iconst 1, 1) := by decide +kernel
theorem dX11_readChunks_533 : decode cX11_readChunks 533 = .ok (.invokevirtual 103, 3) := by decide +kernel
theorem dX11_readChunks_536 : decode cX11_readChunks 536 = .ok (.ifCond .ne 5, 3) := by decide +kernel
theorem dX11_readChunks_539 : decode cX11_readChunks 539 = .ok (.iconst 0, 1) := by decide +kernel
theorem dX11_readChunks_540 : decode cX11_readChunks 540 = .ok (.ireturn, 1) := by decide +kernel
theorem dX11_readChunks_541 : decode cX11_readChunks 541 = .ok (.aload_n 0, 1) := by decide +kernel
theorem dX11_readChunks_542 : decode cX11_readChunks 542 = .ok (.aload_n 0, 1) := by decide +kernel
theorem dX11_readChunks_543 : decode cX11_readChunks 543 = .ok (.getfield 84, 3) := by decide +kernel
theorem dX11_readChunks_546 : decode cX11_readChunks 546 = .ok (.invokevirtual 99, 3) := by decide +kernel
theorem dX11_readChunks_549 : decode cX11_readChunks 549 = .ok (.istore 12, 2) := by decide +kernel
theorem dX11_readChunks_551 : decode cX11_readChunks 551 = .ok (.aload_n 0, 1) := by decide +kernel
theorem dX11_readChunks_552 : decode cX11_readChunks 552 = .ok (.dup, 1) := by decide +kernel
theorem dX11_readChunks_553 : decode cX11_readChunks 553 = .ok (.getfield 84, 3) := by decide +kernel
theorem dX11_readChunks_556 : decode cX11_readChunks 556 = .ok (.iconst 1, 1) := by decide +kernel
theorem dX11_readChunks_557 : decode cX11_readChunks 557 = .ok (.iadd, 1) := by decide +kernel
theorem dX11_readChunks_558 : decode cX11_readChunks 558 = .ok (.putfield 84, 3) := by decide +kernel
theorem dX11_readChunks_561 : decode cX11_readChunks 561 = .ok (.iload 10, 2) := by decide +kernel
theorem dX11_readChunks_563 : decode cX11_readChunks 563 = .ok (.bipush 63, 2) := by decide +kernel
theorem dX11_readChunks_565 : decode cX11_readChunks 565 = .ok (.iand, 1) := by decide +kernel
theorem dX11_readChunks_566 : decode cX11_readChunks 566 = .ok (.bipush 32, 2) := by decide +kernel
theorem dX11_readChunks_568 : decode cX11_readChunks 568 = .ok (.isub, 1) := by decide +kernel
theorem dX11_readChunks_569 : decode cX11_readChunks 569 = .ok (.istore 13, 2) := by decide +kernel
theorem dX11_readChunks_571 : decode cX11_readChunks 571 = .ok (.iload 6, 2) := by decide +kernel
theorem dX11_readChunks_573 : decode cX11_readChunks 573 = .ok (.iload 13, 2) := by decide +kernel
theorem dX11_readChunks_575 : decode cX11_readChunks 575 = .ok (.iload 12, 2) := by decide +kernel
theorem dX11_readChunks_577 : decode cX11_readChunks 577 = .ok (.iconst 4, 1) := by decide +kernel
theorem dX11_readChunks_578 : decode cX11_readChunks 578 = .ok (.ishr, 1) := by decide +kernel
theorem dX11_readChunks_579 : decode cX11_readChunks 579 = .ok (.iadd, 1) := by decide +kernel
theorem dX11_readChunks_580 : decode cX11_readChunks 580 = .ok (.bipush 8, 2) := by decide +kernel
theorem dX11_readChunks_582 : decode cX11_readChunks 582 = .ok (.isub, 1) := by decide +kernel
theorem dX11_readChunks_583 : decode cX11_readChunks 583 = .ok (.iload 13, 2) := by decide +kernel
theorem dX11_readChunks_585 : decode cX11_readChunks 585 = .ok (.iload 13, 2) := by decide +kernel
theorem dX11_readChunks_587 : decode cX11_readChunks 587 = .ok (.iload 12, 2) := by decide +kernel
theorem dX11_readChunks_589 : decode cX11_readChunks 589 = .ok (.bipush 15, 2) := by decide +kernel
theorem dX11_readChunks_591 : decode cX11_readChunks 591 = .ok (.iand, 1) := by decide +kernel
theorem dX11_readChunks_592 : decode cX11_readChunks 592 = .ok (.iadd, 1) := by decide +kernel
theorem dX11_readChunks_593 : decode cX11_readChunks 593 = .ok (.bipush 8, 2) := by decide +kernel
theorem dX11_readChunks_595 : decode cX11_readChunks 595 = .ok (.isub, 1) := by decide +kernel
theorem dX11_readChunks_596 : decode cX11_readChunks 596 = .ok (.invokestatic 139, 3) := by decide +kernel
theorem dX11_readChunks_599 : decode cX11_readChunks 599 = .ok (.istore 6, 2) := by decide +kernel
theorem dX11_readChunks_601 : decode cX11_readChunks 601 = .ok (.goto 30, 3) := by decide +kernel
theorem dX11_readChunks_604 : decode cX11_readChunks 604 = .ok (.iload 10, 2) := by decide +kernel
theorem dX11_readChunks_606 : decode cX11_readChunks 606 = .ok (.bipush 63, 2) := by decide +kernel
theorem dX11_readChunks_608 : decode cX11_readChunks 608 = .ok (.iand, 1) := by decide +kernel
theorem dX11_readChunks_609 : decode cX11_readChunks 609 = .ok (.iconst 1, 1) := by decide +kernel
theorem dX11_readChunks_610 : decode cX11_readChunks 610 = .ok (.iadd, 1) := by decide +kernel
theorem dX11_readChunks_611 : decode cX11_readChunks 611 = .ok (.istore 11, 2) := by decide +kernel
theorem dX11_readChunks_613 : decode cX11_readChunks 613 = .ok (.iload 11, 2) := by decide +kernel
theorem dX11_readChunks_615 : decode cX11_readChunks 615 = .ok (.iload 5, 2) := by decide +kernel
theorem dX11_readChunks_617 : decode cX11_readChunks 617 = .ok (.iload 8, 2) := by decide +kernel
theorem dX11_readChunks_619 : decode cX11_readChunks 619 = .ok (.isub, 1) := by decide +kernel
theorem dX11_readChunks_620 : decode cX11_readChunks 620 = .ok (.if_icmp .le 11, 3) := by decide +kernel
theorem dX11_readChunks_623 : decode cX11_readChunks 623 = .ok (.aload_n 0, 1) := by decide +kernel
theorem dX11_readChunks_624 : decode cX11_readChunks 624 = .ok (.iconst 4, 1) := by decide +kernel
theorem dX11_readChunks_625 : decode cX11_readChunks 625 = .ok (.iload 9, 2) := by decide +kernel
theorem dX11_readChunks_627 : decode cX11_readChunks 627 = .ok (.invokevirtual 90, 3) := by decide +kernel
theorem dX11_readChunks_630 : decode cX11_readChunks 630 = .ok (.ireturn, 1) := by decide +kernel
theorem dX11_readChunks_631 : decode cX11_readChunks 631 = .ok (.iload 10, 2) := by decide +kernel
theorem dX11_readChunks_633 : decode cX11_readChunks 633 = .ok (.istore 7, 2) := by decide +kernel
theorem dX11_readChunks_635 : decode cX11_readChunks 635 = .ok (.aload_n 0, 1) := by decide +kernel
theorem dX11_readChunks_636 : decode cX11_readChunks 636 = .ok (.dup, 1) := by decide +kernel
theorem dX11_readChunks_637 : decode cX11_readChunks 637 = .ok (.getfield 136, 3) := by decide +kernel
theorem dX11_readChunks_640 : decode cX11_readChunks 640 = .ok (.iconst 1, 1) := by decide +kernel
theorem dX11_readChunks_641 : decode cX11_readChunks 641 = .ok (.iadd, 1) := by decide +kernel
theorem dX11_readChunks_642 : decode cX11_readChunks 642 = .ok (.putfield 136, 3) := by decide +kernel
theorem dX11_readChunks_645 : decode cX11_readChunks 645 = .ok (.iconst 0, 1) := by decide +kernel
theorem dX11_readChunks_646 : decode cX11_readChunks 646 = .ok (.istore 12, 2) := by decide +kernel
theorem dX11_readChunks_648 : decode cX11_readChunks 648 = .ok (.iload 12, 2) := by decide +kernel
theorem dX11_readChunks_650 : decode cX11_readChunks 650 = .ok (.iload 11, 2) := by decide +kernel
