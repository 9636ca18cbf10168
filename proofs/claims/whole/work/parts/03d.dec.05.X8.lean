theorem dX8_init_0 : decode cX8_init 0 = .ok (.aload_n 0, 1) := by decide +kernel
theorem dX8_init_1 : decode cX8_init 1 = .ok (.invokespecial 3, 3) := by decide +kernel
theorem dX8_init_4 : decode cX8_init 4 = .ok (.aload_n 0, 1) := by decide +kernel
theorem dX8_init_5 : decode cX8_init 5 = .ok (.aload_n 1, 1) := by decide +kernel
theorem dX8_init_6 : decode cX8_init 6 = .ok (.getfield 9, 3) := by decide +kernel
theorem dX8_init_9 : decode cX8_init 9 = .ok (.putfield 15, 3) := by decide +kernel
theorem dX8_init_12 : decode cX8_init 12 = .ok (.return_, 1) := by decide +kernel
theorem dX8_open_0 : decode cX8_open 0 = .ok (.aload_n 0, 1) := by decide +kernel
theorem dX8_open_1 : decode cX8_open 1 = .ok (.aload_n 1, 1) := by decide +kernel
theorem dX8_open_2 : decode cX8_open 2 = .ok (.getfield 9, 3) := by decide +kernel
theorem dX8_open_5 : decode cX8_open 5 = .ok (.putfield 15, 3) := by decide +kernel
theorem dX8_open_8 : decode cX8_open 8 = .ok (.aload_n 0, 1) := by decide +kernel
theorem dX8_open_9 : decode cX8_open 9 = .ok (.aload_n 1, 1) := by decide +kernel
theorem dX8_open_10 : decode cX8_open 10 = .ok (.getfield 18, 3) := by decide +kernel
theorem dX8_open_13 : decode cX8_open 13 = .ok (.putfield 22, 3) := by decide +kernel
theorem dX8_open_16 : decode cX8_open 16 = .ok (.aload_n 0, 1) := by decide +kernel
theorem dX8_open_17 : decode cX8_open 17 = .ok (.iconst 0, 1) := by decide +kernel
theorem dX8_open_18 : decode cX8_open 18 = .ok (.putfield 25, 3) := by decide +kernel
theorem dX8_open_21 : decode cX8_open 21 = .ok (.aload_n 0, 1) := by decide +kernel
theorem dX8_open_22 : decode cX8_open 22 = .ok (.iconst 0, 1) := by decide +kernel
theorem dX8_open_23 : decode cX8_open 23 = .ok (.putfield 28, 3) := by decide +kernel
theorem dX8_open_26 : decode cX8_open 26 = .ok (.aload_n 0, 1) := by decide +kernel
theorem dX8_open_27 : decode cX8_open 27 = .ok (.iconst (-1), 1) := by decide +kernel
theorem dX8_open_28 : decode cX8_open 28 = .ok (.putfield 31, 3) := by decide +kernel
theorem dX8_open_31 : decode cX8_open 31 = .ok (.return_, 1) := by decide +kernel
theorem dX8_refuse_0 : decode cX8_refuse 0 = .ok (.aload_n 0, 1) := by decide +kernel
theorem dX8_refuse_1 : decode cX8_refuse 1 = .ok (.iload_n 1, 1) := by decide +kernel
theorem dX8_refuse_2 : decode cX8_refuse 2 = .ok (.putfield 28, 3) := by decide +kernel
theorem dX8_refuse_5 : decode cX8_refuse 5 = .ok (.aload_n 0, 1) := by decide +kernel
theorem dX8_refuse_6 : decode cX8_refuse 6 = .ok (.iload_n 2, 1) := by decide +kernel
theorem dX8_refuse_7 : decode cX8_refuse 7 = .ok (.putfield 31, 3) := by decide +kernel
theorem dX8_refuse_10 : decode cX8_refuse 10 = .ok (.new 34, 3) := by decide +kernel
theorem dX8_refuse_13 : decode cX8_refuse 13 = .ok (.dup, 1) := by decide +kernel
theorem dX8_refuse_14 : decode cX8_refuse 14 = .ok (.ldc 36, 2) := by decide +kernel
theorem dX8_refuse_16 : decode cX8_refuse 16 = .ok (.invokespecial 38, 3) := by decide +kernel
theorem dX8_refuse_19 : decode cX8_refuse 19 = .ok (.athrow, 1) := by decide +kernel
theorem dX8_peek_0 : decode cX8_peek 0 = .ok (.aload_n 0, 1) := by decide +kernel
theorem dX8_peek_1 : decode cX8_peek 1 = .ok (.getfield 25, 3) := by decide +kernel
theorem dX8_peek_4 : decode cX8_peek 4 = .ok (.ifCond .lt 30, 3) := by decide +kernel
theorem dX8_peek_7 : decode cX8_peek 7 = .ok (.aload_n 0, 1) := by decide +kernel
theorem dX8_peek_8 : decode cX8_peek 8 = .ok (.getfield 25, 3) := by decide +kernel
theorem dX8_peek_11 : decode cX8_peek 11 = .ok (.aload_n 0, 1) := by decide +kernel
theorem dX8_peek_12 : decode cX8_peek 12 = .ok (.getfield 22, 3) := by decide +kernel
theorem dX8_peek_15 : decode cX8_peek 15 = .ok (.if_icmp .ge 19, 3) := by decide +kernel
theorem dX8_peek_18 : decode cX8_peek 18 = .ok (.aload_n 0, 1) := by decide +kernel
theorem dX8_peek_19 : decode cX8_peek 19 = .ok (.getfield 15, 3) := by decide +kernel
theorem dX8_peek_22 : decode cX8_peek 22 = .ok (.aload_n 0, 1) := by decide +kernel
theorem dX8_peek_23 : decode cX8_peek 23 = .ok (.getfield 25, 3) := by decide +kernel
theorem dX8_peek_26 : decode cX8_peek 26 = .ok (.baload, 1) := by decide +kernel
theorem dX8_peek_27 : decode cX8_peek 27 = .ok (.sipush 255, 3) := by decide +kernel
theorem dX8_peek_30 : decode cX8_peek 30 = .ok (.iand, 1) := by decide +kernel
theorem dX8_peek_31 : decode cX8_peek 31 = .ok (.goto 4, 3) := by decide +kernel
theorem dX8_peek_34 : decode cX8_peek 34 = .ok (.iconst (-1), 1) := by decide +kernel
theorem dX8_peek_35 : decode cX8_peek 35 = .ok (.ireturn, 1) := by decide +kernel
theorem dX8_next_0 : decode cX8_next 0 = .ok (.aload_n 0, 1) := by decide +kernel
theorem dX8_next_1 : decode cX8_next 1 = .ok (.getfield 25, 3) := by decide +kernel
theorem dX8_next_4 : decode cX8_next 4 = .ok (.ifCond .lt 14, 3) := by decide +kernel
theorem dX8_next_7 : decode cX8_next 7 = .ok (.aload_n 0, 1) := by decide +kernel
theorem dX8_next_8 : decode cX8_next 8 = .ok (.getfield 25, 3) := by decide +kernel
theorem dX8_next_11 : decode cX8_next 11 = .ok (.aload_n 0, 1) := by decide +kernel
theorem dX8_next_12 : decode cX8_next 12 = .ok (.getfield 22, 3) := by decide +kernel
theorem dX8_next_15 : decode cX8_next 15 = .ok (.if_icmp .lt 26, 3) := by decide +kernel
theorem dX8_next_18 : decode cX8_next 18 = .ok (.aload_n 0, 1) := by decide +kernel
theorem dX8_next_19 : decode cX8_next 19 = .ok (.iconst 1, 1) := by decide +kernel
theorem dX8_next_20 : decode cX8_next 20 = .ok (.putfield 28, 3) := by decide +kernel
theorem dX8_next_23 : decode cX8_next 23 = .ok (.aload_n 0, 1) := by decide +kernel
theorem dX8_next_24 : decode cX8_next 24 = .ok (.aload_n 0, 1) := by decide +kernel
theorem dX8_next_25 : decode cX8_next 25 = .ok (.getfield 22, 3) := by decide +kernel
theorem dX8_next_28 : decode cX8_next 28 = .ok (.putfield 31, 3) := by decide +kernel
theorem dX8_next_31 : decode cX8_next 31 = .ok (.new 34, 3) := by decide +kernel
theorem dX8_next_34 : decode cX8_next 34 = .ok (.dup, 1) := by decide +kernel
theorem dX8_next_35 : decode cX8_next 35 = .ok (.ldc 41, 2) := by decide +kernel
theorem dX8_next_37 : decode cX8_next 37 = .ok (.invokespecial 38, 3) := by decide +kernel
theorem dX8_next_40 : decode cX8_next 40 = .ok (.athrow, 1) := by decide +kernel
theorem dX8_next_41 : decode cX8_next 41 = .ok (.aload_n 0, 1) := by decide +kernel
theorem dX8_next_42 : decode cX8_next 42 = .ok (.getfield 15, 3) := by decide +kernel
theorem dX8_next_45 : decode cX8_next 45 = .ok (.aload_n 0, 1) := by decide +kernel
theorem dX8_next_46 : decode cX8_next 46 = .ok (.getfield 25, 3) := by decide +kernel
theorem dX8_next_49 : decode cX8_next 49 = .ok (.baload, 1) := by decide +kernel
theorem dX8_next_50 : decode cX8_next 50 = .ok (.sipush 255, 3) := by decide +kernel
theorem dX8_next_53 : decode cX8_next 53 = .ok (.iand, 1) := by decide +kernel
theorem dX8_next_54 : decode cX8_next 54 = .ok (.istore_n 1, 1) := by decide +kernel
theorem dX8_next_55 : decode cX8_next 55 = .ok (.aload_n 0, 1) := by decide +kernel
theorem dX8_next_56 : decode cX8_next 56 = .ok (.dup, 1) := by decide +kernel
theorem dX8_next_57 : decode cX8_next 57 = .ok (.getfield 25, 3) := by decide +kernel
theorem dX8_next_60 : decode cX8_next 60 = .ok (.iconst 1, 1) := by decide +kernel
theorem dX8_next_61 : decode cX8_next 61 = .ok (.iadd, 1) := by decide +kernel
theorem dX8_next_62 : decode cX8_next 62 = .ok (.putfield 25, 3) := by decide +kernel
theorem dX8_next_65 : decode cX8_next 65 = .ok (.iload_n 1, 1) := by decide +kernel
theorem dX8_next_66 : decode cX8_next 66 = .ok (.ireturn, 1) := by decide +kernel
theorem dX8_pass_0 : decode cX8_pass 0 = .ok (.iconst 0, 1) := by decide +kernel
theorem dX8_pass_1 : decode cX8_pass 1 = .ok (.istore_n 2, 1) := by decide +kernel
theorem dX8_pass_2 : decode cX8_pass 2 = .ok (.iload_n 2, 1) := by decide +kernel
theorem dX8_pass_3 : decode cX8_pass 3 = .ok (.iload_n 1, 1) := by decide +kernel
theorem dX8_pass_4 : decode cX8_pass 4 = .ok (.if_icmp .ge 14, 3) := by decide +kernel
theorem dX8_pass_7 : decode cX8_pass 7 = .ok (.aload_n 0, 1) := by decide +kernel
theorem dX8_pass_8 : decode cX8_pass 8 = .ok (.invokevirtual 43, 3) := by decide +kernel
theorem dX8_pass_11 : decode cX8_pass 11 = .ok (.pop, 1) := by decide +kernel
theorem dX8_pass_12 : decode cX8_pass 12 = .ok (.iinc 2 1, 3) := by decide +kernel
theorem dX8_pass_15 : decode cX8_pass 15 = .ok (.goto (-13), 3) := by decide +kernel
theorem dX8_pass_18 : decode cX8_pass 18 = .ok (.return_, 1) := by decide +kernel
theorem dX8_low2_0 : decode cX8_low2 0 = .ok (.aload_n 0, 1) := by decide +kernel
theorem dX8_low2_1 : decode cX8_low2 1 = .ok (.invokevirtual 43, 3) := by decide +kernel
theorem dX8_low2_4 : decode cX8_low2 4 = .ok (.istore_n 1, 1) := by decide +kernel
theorem dX8_low2_5 : decode cX8_low2 5 = .ok (.aload_n 0, 1) := by decide +kernel
theorem dX8_low2_6 : decode cX8_low2 6 = .ok (.invokevirtual 43, 3) := by decide +kernel
theorem dX8_low2_9 : decode cX8_low2 9 = .ok (.bipush 8, 2) := by decide +kernel
theorem dX8_low2_11 : decode cX8_low2 11 = .ok (.ishl, 1) := by decide +kernel
theorem dX8_low2_12 : decode cX8_low2 12 = .ok (.iload_n 1, 1) := by decide +kernel
theorem dX8_low2_13 : decode cX8_low2 13 = .ok (.ior, 1) := by decide +kernel
theorem dX8_low2_14 : decode cX8_low2 14 = .ok (.ireturn, 1) := by decide +kernel
theorem dX8_low4_0 : decode cX8_low4 0 = .ok (.aload_n 0, 1) := by decide +kernel
theorem dX8_low4_1 : decode cX8_low4 1 = .ok (.invokevirtual 47, 3) := by decide +kernel
theorem dX8_low4_4 : decode cX8_low4 4 = .ok (.istore_n 1, 1) := by decide +kernel
theorem dX8_low4_5 : decode cX8_low4 5 = .ok (.aload_n 0, 1) := by decide +kernel
theorem dX8_low4_6 : decode cX8_low4 6 = .ok (.invokevirtual 47, 3) := by decide +kernel
theorem dX8_low4_9 : decode cX8_low4 9 = .ok (.bipush 16, 2) := by decide +kernel
theorem dX8_low4_11 : decode cX8_low4 11 = .ok (.ishl, 1) := by decide +kernel
theorem dX8_low4_12 : decode cX8_low4 12 = .ok (.iload_n 1, 1) := by decide +kernel
theorem dX8_low4_13 : decode cX8_low4 13 = .ok (.ior, 1) := by decide +kernel
theorem dX8_low4_14 : decode cX8_low4 14 = .ok (.ireturn, 1) := by decide +kernel
theorem dX8_high4_0 : decode cX8_high4 0 = .ok (.iconst 0, 1) := by decide +kernel
theorem dX8_high4_1 : decode cX8_high4 1 = .ok (.istore_n 1, 1) := by decide +kernel
theorem dX8_high4_2 : decode cX8_high4 2 = .ok (.iconst 0, 1) := by decide +kernel
theorem dX8_high4_3 : decode cX8_high4 3 = .ok (.istore_n 2, 1) := by decide +kernel
theorem dX8_high4_4 : decode cX8_high4 4 = .ok (.iload_n 2, 1) := by decide +kernel
theorem dX8_high4_5 : decode cX8_high4 5 = .ok (.iconst 4, 1) := by decide +kernel
theorem dX8_high4_6 : decode cX8_high4 6 = .ok (.if_icmp .ge 19, 3) := by decide +kernel
theorem dX8_high4_9 : decode cX8_high4 9 = .ok (.iload_n 1, 1) := by decide +kernel
theorem dX8_high4_10 : decode cX8_high4 10 = .ok (.bipush 8, 2) := by decide +kernel
theorem dX8_high4_12 : decode cX8_high4 12 = .ok (.ishl, 1) := by decide +kernel
theorem dX8_high4_13 : decode cX8_high4 13 = .ok (.aload_n 0, 1) := by decide +kernel
theorem dX8_high4_14 : decode cX8_high4 14 = .ok (.invokevirtual 43, 3) := by decide +kernel
theorem dX8_high4_17 : decode cX8_high4 17 = .ok (.ior, 1) := by decide +kernel
theorem dX8_high4_18 : decode cX8_high4 18 = .ok (.istore_n 1, 1) := by decide +kernel
theorem dX8_high4_19 : decode cX8_high4 19 = .ok (.iinc 2 1, 3) := by decide +kernel
theorem dX8_high4_22 : decode cX8_high4 22 = .ok (.goto (-18), 3) := by decide +kernel
theorem dX8_high4_25 : decode cX8_high4 25 = .ok (.iload_n 1, 1) := by decide +kernel
theorem dX8_high4_26 : decode cX8_high4 26 = .ok (.ireturn, 1) := by decide +kernel
theorem dX8_want_0 : decode cX8_want 0 = .ok (.aload_n 0, 1) := by decide +kernel
theorem dX8_want_1 : decode cX8_want 1 = .ok (.getfield 25, 3) := by decide +kernel
theorem dX8_want_4 : decode cX8_want 4 = .ok (.istore_n 2, 1) := by decide +kernel
theorem dX8_want_5 : decode cX8_want 5 = .ok (.aload_n 0, 1) := by decide +kernel
theorem dX8_want_6 : decode cX8_want 6 = .ok (.invokevirtual 43, 3) := by decide +kernel
theorem dX8_want_9 : decode cX8_want 9 = .ok (.iload_n 1, 1) := by decide +kernel
theorem dX8_want_10 : decode cX8_want 10 = .ok (.if_icmp .eq 9, 3) := by decide +kernel
theorem dX8_want_13 : decode cX8_want 13 = .ok (.aload_n 0, 1) := by decide +kernel
theorem dX8_want_14 : decode cX8_want 14 = .ok (.iconst 2, 1) := by decide +kernel
theorem dX8_want_15 : decode cX8_want 15 = .ok (.iload_n 2, 1) := by decide +kernel
theorem dX8_want_16 : decode cX8_want 16 = .ok (.invokevirtual 50, 3) := by decide +kernel
theorem dX8_want_19 : decode cX8_want 19 = .ok (.return_, 1) := by decide +kernel
theorem dX8_wantLow4_0 : decode cX8_wantLow4 0 = .ok (.aload_n 0, 1) := by decide +kernel
theorem dX8_wantLow4_1 : decode cX8_wantLow4 1 = .ok (.getfield 25, 3) := by decide +kernel
theorem dX8_wantLow4_4 : decode cX8_wantLow4 4 = .ok (.istore_n 2, 1) := by decide +kernel
theorem dX8_wantLow4_5 : decode cX8_wantLow4 5 = .ok (.aload_n 0, 1) := by decide +kernel
theorem dX8_wantLow4_6 : decode cX8_wantLow4 6 = .ok (.invokevirtual 54, 3) := by decide +kernel
theorem dX8_wantLow4_9 : decode cX8_wantLow4 9 = .ok (.iload_n 1, 1) := by decide +kernel
theorem dX8_wantLow4_10 : decode cX8_wantLow4 10 = .ok (.if_icmp .eq 9, 3) := by decide +kernel
theorem dX8_wantLow4_13 : decode cX8_wantLow4 13 = .ok (.aload_n 0, 1) := by decide +kernel
theorem dX8_wantLow4_14 : decode cX8_wantLow4 14 = .ok (.iconst 2, 1) := by decide +kernel
theorem dX8_wantLow4_15 : decode cX8_wantLow4 15 = .ok (.iload_n 2, 1) := by decide +kernel
theorem dX8_wantLow4_16 : decode cX8_wantLow4 16 = .ok (.invokevirtual 50, 3) := by decide +kernel
theorem dX8_wantLow4_19 : decode cX8_wantLow4 19 = .ok (.return_, 1) := by decide +kernel
theorem dX8_wantEnd_0 : decode cX8_wantEnd 0 = .ok (.aload_n 0, 1) := by decide +kernel
theorem dX8_wantEnd_1 : decode cX8_wantEnd 1 = .ok (.getfield 25, 3) := by decide +kernel
theorem dX8_wantEnd_4 : decode cX8_wantEnd 4 = .ok (.aload_n 0, 1) := by decide +kernel
theorem dX8_wantEnd_5 : decode cX8_wantEnd 5 = .ok (.getfield 22, 3) := by decide +kernel
theorem dX8_wantEnd_8 : decode cX8_wantEnd 8 = .ok (.if_icmp .ge 12, 3) := by decide +kernel
theorem dX8_wantEnd_11 : decode cX8_wantEnd 11 = .ok (.aload_n 0, 1) := by decide +kernel
theorem dX8_wantEnd_12 : decode cX8_wantEnd 12 = .ok (.iconst 5, 1) := by decide +kernel
theorem dX8_wantEnd_13 : decode cX8_wantEnd 13 = .ok (.aload_n 0, 1) := by decide +kernel
theorem dX8_wantEnd_14 : decode cX8_wantEnd 14 = .ok (.getfield 25, 3) := by decide +kernel
theorem dX8_wantEnd_17 : decode cX8_wantEnd 17 = .ok (.invokevirtual 50, 3) := by decide +kernel
theorem dX8_wantEnd_20 : decode cX8_wantEnd 20 = .ok (.return_, 1) := by decide +kernel
theorem dX8_lay_0 : decode cX8_lay 0 = .ok (.lload_n 2, 1) := by decide +kernel
theorem dX8_lay_1 : decode cX8_lay 1 = .ok (.lload 4, 2) := by decide +kernel
theorem dX8_lay_3 : decode cX8_lay 3 = .ok (.invokestatic 57, 3) := by decide +kernel
theorem dX8_lay_6 : decode cX8_lay 6 = .ok (.ifCond .eq 10, 3) := by decide +kernel
theorem dX8_lay_9 : decode cX8_lay 9 = .ok (.aload_n 0, 1) := by decide +kernel
theorem dX8_lay_10 : decode cX8_lay 10 = .ok (.iconst 3, 1) := by decide +kernel
theorem dX8_lay_11 : decode cX8_lay 11 = .ok (.iload 6, 2) := by decide +kernel
theorem dX8_lay_13 : decode cX8_lay 13 = .ok (.invokevirtual 50, 3) := by decide +kernel
theorem dX8_lay_16 : decode cX8_lay 16 = .ok (.aload_n 1, 1) := by decide +kernel
theorem dX8_lay_17 : decode cX8_lay 17 = .ok (.lload_n 2, 1) := by decide +kernel
theorem dX8_lay_18 : decode cX8_lay 18 = .ok (.l2i, 1) := by decide +kernel
theorem dX8_lay_19 : decode cX8_lay 19 = .ok (.putfield 61, 3) := by decide +kernel
theorem dX8_lay_22 : decode cX8_lay 22 = .ok (.aload_n 1, 1) := by decide +kernel
theorem dX8_lay_23 : decode cX8_lay 23 = .ok (.lload 4, 2) := by decide +kernel
theorem dX8_lay_25 : decode cX8_lay 25 = .ok (.l2i, 1) := by decide +kernel
theorem dX8_lay_26 : decode cX8_lay 26 = .ok (.putfield 66, 3) := by decide +kernel
theorem dX8_lay_29 : decode cX8_lay 29 = .ok (.return_, 1) := by decide +kernel
