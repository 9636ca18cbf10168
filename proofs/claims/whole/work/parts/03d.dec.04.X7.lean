theorem dX7_init_0 : decode cX7_init 0 = .ok (.aload_n 0, 1) := by decide +kernel
theorem dX7_init_1 : decode cX7_init 1 = .ok (.invokespecial 3, 3) := by decide +kernel
theorem dX7_init_4 : decode cX7_init 4 = .ok (.aload_n 0, 1) := by decide +kernel
theorem dX7_init_5 : decode cX7_init 5 = .ok (.sipush 4096, 3) := by decide +kernel
theorem dX7_init_8 : decode cX7_init 8 = .ok (.newarray .int, 2) := by decide +kernel
theorem dX7_init_10 : decode cX7_init 10 = .ok (.putfield 9, 3) := by decide +kernel
theorem dX7_init_13 : decode cX7_init 13 = .ok (.return_, 1) := by decide +kernel
theorem dX7_isEmpty_0 : decode cX7_isEmpty 0 = .ok (.aload_n 0, 1) := by decide +kernel
theorem dX7_isEmpty_1 : decode cX7_isEmpty 1 = .ok (.getfield 15, 3) := by decide +kernel
theorem dX7_isEmpty_4 : decode cX7_isEmpty 4 = .ok (.ifCond .ne 7, 3) := by decide +kernel
theorem dX7_isEmpty_7 : decode cX7_isEmpty 7 = .ok (.iconst 1, 1) := by decide +kernel
theorem dX7_isEmpty_8 : decode cX7_isEmpty 8 = .ok (.goto 4, 3) := by decide +kernel
theorem dX7_isEmpty_11 : decode cX7_isEmpty 11 = .ok (.iconst 0, 1) := by decide +kernel
theorem dX7_isEmpty_12 : decode cX7_isEmpty 12 = .ok (.ireturn, 1) := by decide +kernel
theorem dX7_count_0 : decode cX7_count 0 = .ok (.aload_n 0, 1) := by decide +kernel
theorem dX7_count_1 : decode cX7_count 1 = .ok (.getfield 15, 3) := by decide +kernel
theorem dX7_count_4 : decode cX7_count 4 = .ok (.aload_n 0, 1) := by decide +kernel
theorem dX7_count_5 : decode cX7_count 5 = .ok (.getfield 19, 3) := by decide +kernel
theorem dX7_count_8 : decode cX7_count 8 = .ok (.imul, 1) := by decide +kernel
theorem dX7_count_9 : decode cX7_count 9 = .ok (.ireturn, 1) := by decide +kernel
theorem dX7_get_0 : decode cX7_get 0 = .ok (.iload_n 1, 1) := by decide +kernel
theorem dX7_get_1 : decode cX7_get 1 = .ok (.ifCond .lt 19, 3) := by decide +kernel
theorem dX7_get_4 : decode cX7_get 4 = .ok (.iload_n 1, 1) := by decide +kernel
theorem dX7_get_5 : decode cX7_get 5 = .ok (.sipush 4096, 3) := by decide +kernel
theorem dX7_get_8 : decode cX7_get 8 = .ok (.if_icmp .ge 12, 3) := by decide +kernel
theorem dX7_get_11 : decode cX7_get 11 = .ok (.aload_n 0, 1) := by decide +kernel
theorem dX7_get_12 : decode cX7_get 12 = .ok (.getfield 9, 3) := by decide +kernel
theorem dX7_get_15 : decode cX7_get 15 = .ok (.iload_n 1, 1) := by decide +kernel
theorem dX7_get_16 : decode cX7_get 16 = .ok (.iaload, 1) := by decide +kernel
theorem dX7_get_17 : decode cX7_get 17 = .ok (.goto 4, 3) := by decide +kernel
theorem dX7_get_20 : decode cX7_get 20 = .ok (.iconst 0, 1) := by decide +kernel
theorem dX7_get_21 : decode cX7_get 21 = .ok (.ireturn, 1) := by decide +kernel
theorem dX7_set_0 : decode cX7_set 0 = .ok (.iload_n 1, 1) := by decide +kernel
theorem dX7_set_1 : decode cX7_set 1 = .ok (.ifCond .lt 17, 3) := by decide +kernel
theorem dX7_set_4 : decode cX7_set 4 = .ok (.iload_n 1, 1) := by decide +kernel
theorem dX7_set_5 : decode cX7_set 5 = .ok (.sipush 4096, 3) := by decide +kernel
theorem dX7_set_8 : decode cX7_set 8 = .ok (.if_icmp .ge 10, 3) := by decide +kernel
theorem dX7_set_11 : decode cX7_set 11 = .ok (.aload_n 0, 1) := by decide +kernel
theorem dX7_set_12 : decode cX7_set 12 = .ok (.getfield 9, 3) := by decide +kernel
theorem dX7_set_15 : decode cX7_set 15 = .ok (.iload_n 1, 1) := by decide +kernel
theorem dX7_set_16 : decode cX7_set 16 = .ok (.iload_n 2, 1) := by decide +kernel
theorem dX7_set_17 : decode cX7_set 17 = .ok (.iastore, 1) := by decide +kernel
theorem dX7_set_18 : decode cX7_set 18 = .ok (.return_, 1) := by decide +kernel
theorem dX7_fill_0 : decode cX7_fill 0 = .ok (.aload_n 0, 1) := by decide +kernel
theorem dX7_fill_1 : decode cX7_fill 1 = .ok (.invokevirtual 22, 3) := by decide +kernel
theorem dX7_fill_4 : decode cX7_fill 4 = .ok (.istore_n 2, 1) := by decide +kernel
theorem dX7_fill_5 : decode cX7_fill 5 = .ok (.iconst 0, 1) := by decide +kernel
theorem dX7_fill_6 : decode cX7_fill 6 = .ok (.istore_n 3, 1) := by decide +kernel
theorem dX7_fill_7 : decode cX7_fill 7 = .ok (.iload_n 3, 1) := by decide +kernel
theorem dX7_fill_8 : decode cX7_fill 8 = .ok (.iload_n 2, 1) := by decide +kernel
theorem dX7_fill_9 : decode cX7_fill 9 = .ok (.if_icmp .ge 15, 3) := by decide +kernel
theorem dX7_fill_12 : decode cX7_fill 12 = .ok (.aload_n 0, 1) := by decide +kernel
theorem dX7_fill_13 : decode cX7_fill 13 = .ok (.iload_n 3, 1) := by decide +kernel
theorem dX7_fill_14 : decode cX7_fill 14 = .ok (.iload_n 1, 1) := by decide +kernel
theorem dX7_fill_15 : decode cX7_fill 15 = .ok (.invokevirtual 26, 3) := by decide +kernel
theorem dX7_fill_18 : decode cX7_fill 18 = .ok (.iinc 3 1, 3) := by decide +kernel
theorem dX7_fill_21 : decode cX7_fill 21 = .ok (.goto (-14), 3) := by decide +kernel
theorem dX7_fill_24 : decode cX7_fill 24 = .ok (.return_, 1) := by decide +kernel
theorem dX7_isOpaque_0 : decode cX7_isOpaque 0 = .ok (.aload_n 0, 1) := by decide +kernel
theorem dX7_isOpaque_1 : decode cX7_isOpaque 1 = .ok (.invokevirtual 22, 3) := by decide +kernel
theorem dX7_isOpaque_4 : decode cX7_isOpaque 4 = .ok (.istore_n 1, 1) := by decide +kernel
theorem dX7_isOpaque_5 : decode cX7_isOpaque 5 = .ok (.iconst 0, 1) := by decide +kernel
theorem dX7_isOpaque_6 : decode cX7_isOpaque 6 = .ok (.istore_n 2, 1) := by decide +kernel
theorem dX7_isOpaque_7 : decode cX7_isOpaque 7 = .ok (.iload_n 2, 1) := by decide +kernel
theorem dX7_isOpaque_8 : decode cX7_isOpaque 8 = .ok (.iload_n 1, 1) := by decide +kernel
theorem dX7_isOpaque_9 : decode cX7_isOpaque 9 = .ok (.if_icmp .ge 25, 3) := by decide +kernel
theorem dX7_isOpaque_12 : decode cX7_isOpaque 12 = .ok (.aload_n 0, 1) := by decide +kernel
theorem dX7_isOpaque_13 : decode cX7_isOpaque 13 = .ok (.iload_n 2, 1) := by decide +kernel
theorem dX7_isOpaque_14 : decode cX7_isOpaque 14 = .ok (.invokevirtual 30, 3) := by decide +kernel
theorem dX7_isOpaque_17 : decode cX7_isOpaque 17 = .ok (.invokestatic 34, 3) := by decide +kernel
theorem dX7_isOpaque_20 : decode cX7_isOpaque 20 = .ok (.sipush 255, 3) := by decide +kernel
theorem dX7_isOpaque_23 : decode cX7_isOpaque 23 = .ok (.if_icmp .eq 5, 3) := by decide +kernel
theorem dX7_isOpaque_26 : decode cX7_isOpaque 26 = .ok (.iconst 0, 1) := by decide +kernel
theorem dX7_isOpaque_27 : decode cX7_isOpaque 27 = .ok (.ireturn, 1) := by decide +kernel
theorem dX7_isOpaque_28 : decode cX7_isOpaque 28 = .ok (.iinc 2 1, 3) := by decide +kernel
theorem dX7_isOpaque_31 : decode cX7_isOpaque 31 = .ok (.goto (-24), 3) := by decide +kernel
theorem dX7_isOpaque_34 : decode cX7_isOpaque 34 = .ok (.iconst 1, 1) := by decide +kernel
theorem dX7_isOpaque_35 : decode cX7_isOpaque 35 = .ok (.ireturn, 1) := by decide +kernel
theorem dX7_isGray_0 : decode cX7_isGray 0 = .ok (.aload_n 0, 1) := by decide +kernel
theorem dX7_isGray_1 : decode cX7_isGray 1 = .ok (.invokevirtual 22, 3) := by decide +kernel
theorem dX7_isGray_4 : decode cX7_isGray 4 = .ok (.istore_n 1, 1) := by decide +kernel
theorem dX7_isGray_5 : decode cX7_isGray 5 = .ok (.iconst 0, 1) := by decide +kernel
theorem dX7_isGray_6 : decode cX7_isGray 6 = .ok (.istore_n 2, 1) := by decide +kernel
theorem dX7_isGray_7 : decode cX7_isGray 7 = .ok (.iload_n 2, 1) := by decide +kernel
theorem dX7_isGray_8 : decode cX7_isGray 8 = .ok (.iload_n 1, 1) := by decide +kernel
theorem dX7_isGray_9 : decode cX7_isGray 9 = .ok (.if_icmp .ge 39, 3) := by decide +kernel
theorem dX7_isGray_12 : decode cX7_isGray 12 = .ok (.aload_n 0, 1) := by decide +kernel
theorem dX7_isGray_13 : decode cX7_isGray 13 = .ok (.iload_n 2, 1) := by decide +kernel
theorem dX7_isGray_14 : decode cX7_isGray 14 = .ok (.invokevirtual 30, 3) := by decide +kernel
theorem dX7_isGray_17 : decode cX7_isGray 17 = .ok (.istore_n 3, 1) := by decide +kernel
theorem dX7_isGray_18 : decode cX7_isGray 18 = .ok (.iload_n 3, 1) := by decide +kernel
theorem dX7_isGray_19 : decode cX7_isGray 19 = .ok (.invokestatic 37, 3) := by decide +kernel
theorem dX7_isGray_22 : decode cX7_isGray 22 = .ok (.iload_n 3, 1) := by decide +kernel
theorem dX7_isGray_23 : decode cX7_isGray 23 = .ok (.invokestatic 40, 3) := by decide +kernel
theorem dX7_isGray_26 : decode cX7_isGray 26 = .ok (.if_icmp .ne 14, 3) := by decide +kernel
theorem dX7_isGray_29 : decode cX7_isGray 29 = .ok (.iload_n 3, 1) := by decide +kernel
theorem dX7_isGray_30 : decode cX7_isGray 30 = .ok (.invokestatic 40, 3) := by decide +kernel
theorem dX7_isGray_33 : decode cX7_isGray 33 = .ok (.iload_n 3, 1) := by decide +kernel
theorem dX7_isGray_34 : decode cX7_isGray 34 = .ok (.invokestatic 43, 3) := by decide +kernel
theorem dX7_isGray_37 : decode cX7_isGray 37 = .ok (.if_icmp .eq 5, 3) := by decide +kernel
theorem dX7_isGray_40 : decode cX7_isGray 40 = .ok (.iconst 0, 1) := by decide +kernel
theorem dX7_isGray_41 : decode cX7_isGray 41 = .ok (.ireturn, 1) := by decide +kernel
theorem dX7_isGray_42 : decode cX7_isGray 42 = .ok (.iinc 2 1, 3) := by decide +kernel
theorem dX7_isGray_45 : decode cX7_isGray 45 = .ok (.goto (-38), 3) := by decide +kernel
theorem dX7_isGray_48 : decode cX7_isGray 48 = .ok (.iconst 1, 1) := by decide +kernel
theorem dX7_isGray_49 : decode cX7_isGray 49 = .ok (.ireturn, 1) := by decide +kernel
theorem dX7_isPlain_0 : decode cX7_isPlain 0 = .ok (.aload_n 0, 1) := by decide +kernel
theorem dX7_isPlain_1 : decode cX7_isPlain 1 = .ok (.invokevirtual 22, 3) := by decide +kernel
theorem dX7_isPlain_4 : decode cX7_isPlain 4 = .ok (.istore_n 1, 1) := by decide +kernel
theorem dX7_isPlain_5 : decode cX7_isPlain 5 = .ok (.iconst 0, 1) := by decide +kernel
theorem dX7_isPlain_6 : decode cX7_isPlain 6 = .ok (.istore_n 2, 1) := by decide +kernel
theorem dX7_isPlain_7 : decode cX7_isPlain 7 = .ok (.iload_n 2, 1) := by decide +kernel
theorem dX7_isPlain_8 : decode cX7_isPlain 8 = .ok (.iload_n 1, 1) := by decide +kernel
theorem dX7_isPlain_9 : decode cX7_isPlain 9 = .ok (.if_icmp .ge 29, 3) := by decide +kernel
theorem dX7_isPlain_12 : decode cX7_isPlain 12 = .ok (.aload_n 0, 1) := by decide +kernel
theorem dX7_isPlain_13 : decode cX7_isPlain 13 = .ok (.iload_n 2, 1) := by decide +kernel
theorem dX7_isPlain_14 : decode cX7_isPlain 14 = .ok (.invokevirtual 30, 3) := by decide +kernel
theorem dX7_isPlain_17 : decode cX7_isPlain 17 = .ok (.istore_n 3, 1) := by decide +kernel
theorem dX7_isPlain_18 : decode cX7_isPlain 18 = .ok (.iload_n 3, 1) := by decide +kernel
theorem dX7_isPlain_19 : decode cX7_isPlain 19 = .ok (.sipush 255, 3) := by decide +kernel
theorem dX7_isPlain_22 : decode cX7_isPlain 22 = .ok (.if_icmp .eq 10, 3) := by decide +kernel
theorem dX7_isPlain_25 : decode cX7_isPlain 25 = .ok (.iload_n 3, 1) := by decide +kernel
theorem dX7_isPlain_26 : decode cX7_isPlain 26 = .ok (.iconst (-1), 1) := by decide +kernel
theorem dX7_isPlain_27 : decode cX7_isPlain 27 = .ok (.if_icmp .eq 5, 3) := by decide +kernel
theorem dX7_isPlain_30 : decode cX7_isPlain 30 = .ok (.iconst 0, 1) := by decide +kernel
theorem dX7_isPlain_31 : decode cX7_isPlain 31 = .ok (.ireturn, 1) := by decide +kernel
theorem dX7_isPlain_32 : decode cX7_isPlain 32 = .ok (.iinc 2 1, 3) := by decide +kernel
theorem dX7_isPlain_35 : decode cX7_isPlain 35 = .ok (.goto (-28), 3) := by decide +kernel
theorem dX7_isPlain_38 : decode cX7_isPlain 38 = .ok (.iconst 1, 1) := by decide +kernel
theorem dX7_isPlain_39 : decode cX7_isPlain 39 = .ok (.ireturn, 1) := by decide +kernel
theorem dX7_isLike_0 : decode cX7_isLike 0 = .ok (.aload_n 0, 1) := by decide +kernel
theorem dX7_isLike_1 : decode cX7_isLike 1 = .ok (.getfield 15, 3) := by decide +kernel
theorem dX7_isLike_4 : decode cX7_isLike 4 = .ok (.aload_n 1, 1) := by decide +kernel
theorem dX7_isLike_5 : decode cX7_isLike 5 = .ok (.getfield 15, 3) := by decide +kernel
theorem dX7_isLike_8 : decode cX7_isLike 8 = .ok (.if_icmp .ne 14, 3) := by decide +kernel
theorem dX7_isLike_11 : decode cX7_isLike 11 = .ok (.aload_n 0, 1) := by decide +kernel
theorem dX7_isLike_12 : decode cX7_isLike 12 = .ok (.getfield 19, 3) := by decide +kernel
theorem dX7_isLike_15 : decode cX7_isLike 15 = .ok (.aload_n 1, 1) := by decide +kernel
theorem dX7_isLike_16 : decode cX7_isLike 16 = .ok (.getfield 19, 3) := by decide +kernel
theorem dX7_isLike_19 : decode cX7_isLike 19 = .ok (.if_icmp .eq 5, 3) := by decide +kernel
theorem dX7_isLike_22 : decode cX7_isLike 22 = .ok (.iconst 0, 1) := by decide +kernel
theorem dX7_isLike_23 : decode cX7_isLike 23 = .ok (.ireturn, 1) := by decide +kernel
theorem dX7_isLike_24 : decode cX7_isLike 24 = .ok (.aload_n 0, 1) := by decide +kernel
theorem dX7_isLike_25 : decode cX7_isLike 25 = .ok (.invokevirtual 22, 3) := by decide +kernel
theorem dX7_isLike_28 : decode cX7_isLike 28 = .ok (.istore_n 2, 1) := by decide +kernel
theorem dX7_isLike_29 : decode cX7_isLike 29 = .ok (.iconst 0, 1) := by decide +kernel
theorem dX7_isLike_30 : decode cX7_isLike 30 = .ok (.istore_n 3, 1) := by decide +kernel
theorem dX7_isLike_31 : decode cX7_isLike 31 = .ok (.iload_n 3, 1) := by decide +kernel
theorem dX7_isLike_32 : decode cX7_isLike 32 = .ok (.iload_n 2, 1) := by decide +kernel
theorem dX7_isLike_33 : decode cX7_isLike 33 = .ok (.if_icmp .ge 24, 3) := by decide +kernel
theorem dX7_isLike_36 : decode cX7_isLike 36 = .ok (.aload_n 0, 1) := by decide +kernel
theorem dX7_isLike_37 : decode cX7_isLike 37 = .ok (.iload_n 3, 1) := by decide +kernel
theorem dX7_isLike_38 : decode cX7_isLike 38 = .ok (.invokevirtual 30, 3) := by decide +kernel
theorem dX7_isLike_41 : decode cX7_isLike 41 = .ok (.aload_n 1, 1) := by decide +kernel
theorem dX7_isLike_42 : decode cX7_isLike 42 = .ok (.iload_n 3, 1) := by decide +kernel
theorem dX7_isLike_43 : decode cX7_isLike 43 = .ok (.invokevirtual 30, 3) := by decide +kernel
theorem dX7_isLike_46 : decode cX7_isLike 46 = .ok (.if_icmp .eq 5, 3) := by decide +kernel
theorem dX7_isLike_49 : decode cX7_isLike 49 = .ok (.iconst 0, 1) := by decide +kernel
theorem dX7_isLike_50 : decode cX7_isLike 50 = .ok (.ireturn, 1) := by decide +kernel
theorem dX7_isLike_51 : decode cX7_isLike 51 = .ok (.iinc 3 1, 3) := by decide +kernel
theorem dX7_isLike_54 : decode cX7_isLike 54 = .ok (.goto (-23), 3) := by decide +kernel
theorem dX7_isLike_57 : decode cX7_isLike 57 = .ok (.iconst 1, 1) := by decide +kernel
theorem dX7_isLike_58 : decode cX7_isLike 58 = .ok (.ireturn, 1) := by decide +kernel
theorem dX7_takeFrom_0 : decode cX7_takeFrom 0 = .ok (.aload_n 0, 1) := by decide +kernel
theorem dX7_takeFrom_1 : decode cX7_takeFrom 1 = .ok (.aload_n 1, 1) := by decide +kernel
theorem dX7_takeFrom_2 : decode cX7_takeFrom 2 = .ok (.getfield 15, 3) := by decide +kernel
theorem dX7_takeFrom_5 : decode cX7_takeFrom 5 = .ok (.putfield 15, 3) := by decide +kernel
theorem dX7_takeFrom_8 : decode cX7_takeFrom 8 = .ok (.aload_n 0, 1) := by decide +kernel
theorem dX7_takeFrom_9 : decode cX7_takeFrom 9 = .ok (.aload_n 1, 1) := by decide +kernel
theorem dX7_takeFrom_10 : decode cX7_takeFrom 10 = .ok (.getfield 19, 3) := by decide +kernel
theorem dX7_takeFrom_13 : decode cX7_takeFrom 13 = .ok (.putfield 19, 3) := by decide +kernel
theorem dX7_takeFrom_16 : decode cX7_takeFrom 16 = .ok (.aload_n 0, 1) := by decide +kernel
theorem dX7_takeFrom_17 : decode cX7_takeFrom 17 = .ok (.invokevirtual 22, 3) := by decide +kernel
theorem dX7_takeFrom_20 : decode cX7_takeFrom 20 = .ok (.istore_n 2, 1) := by decide +kernel
theorem dX7_takeFrom_21 : decode cX7_takeFrom 21 = .ok (.iconst 0, 1) := by decide +kernel
theorem dX7_takeFrom_22 : decode cX7_takeFrom 22 = .ok (.istore_n 3, 1) := by decide +kernel
theorem dX7_takeFrom_23 : decode cX7_takeFrom 23 = .ok (.iload_n 3, 1) := by decide +kernel
theorem dX7_takeFrom_24 : decode cX7_takeFrom 24 = .ok (.iload_n 2, 1) := by decide +kernel
theorem dX7_takeFrom_25 : decode cX7_takeFrom 25 = .ok (.if_icmp .ge 19, 3) := by decide +kernel
theorem dX7_takeFrom_28 : decode cX7_takeFrom 28 = .ok (.aload_n 0, 1) := by decide +kernel
theorem dX7_takeFrom_29 : decode cX7_takeFrom 29 = .ok (.iload_n 3, 1) := by decide +kernel
theorem dX7_takeFrom_30 : decode cX7_takeFrom 30 = .ok (.aload_n 1, 1) := by decide +kernel
theorem dX7_takeFrom_31 : decode cX7_takeFrom 31 = .ok (.iload_n 3, 1) := by decide +kernel
theorem dX7_takeFrom_32 : decode cX7_takeFrom 32 = .ok (.invokevirtual 30, 3) := by decide +kernel
theorem dX7_takeFrom_35 : decode cX7_takeFrom 35 = .ok (.invokevirtual 26, 3) := by decide +kernel
theorem dX7_takeFrom_38 : decode cX7_takeFrom 38 = .ok (.iinc 3 1, 3) := by decide +kernel
theorem dX7_takeFrom_41 : decode cX7_takeFrom 41 = .ok (.goto (-18), 3) := by decide +kernel
theorem dX7_takeFrom_44 : decode cX7_takeFrom 44 = .ok (.return_, 1) := by decide +kernel
