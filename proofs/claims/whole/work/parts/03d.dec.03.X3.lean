theorem dX3_init_0 : decode cX3_init 0 = .ok (.aload_n 0, 1) := by decide +kernel
theorem dX3_init_1 : decode cX3_init 1 = .ok (.invokespecial 3, 3) := by decide +kernel
theorem dX3_init_4 : decode cX3_init 4 = .ok (.aload_n 0, 1) := by decide +kernel
theorem dX3_init_5 : decode cX3_init 5 = .ok (.sipush 4096, 3) := by decide +kernel
theorem dX3_init_8 : decode cX3_init 8 = .ok (.newarray .int, 2) := by decide +kernel
theorem dX3_init_10 : decode cX3_init 10 = .ok (.putfield 9, 3) := by decide +kernel
theorem dX3_init_13 : decode cX3_init 13 = .ok (.aload_n 0, 1) := by decide +kernel
theorem dX3_init_14 : decode cX3_init 14 = .ok (.sipush 8192, 3) := by decide +kernel
theorem dX3_init_17 : decode cX3_init 17 = .ok (.newarray .int, 2) := by decide +kernel
theorem dX3_init_19 : decode cX3_init 19 = .ok (.putfield 15, 3) := by decide +kernel
theorem dX3_init_22 : decode cX3_init 22 = .ok (.return_, 1) := by decide +kernel
theorem dX3_gather_0 : decode cX3_gather 0 = .ok (.aload_n 0, 1) := by decide +kernel
theorem dX3_gather_1 : decode cX3_gather 1 = .ok (.getfield 15, 3) := by decide +kernel
theorem dX3_gather_4 : decode cX3_gather 4 = .ok (.iconst 0, 1) := by decide +kernel
theorem dX3_gather_5 : decode cX3_gather 5 = .ok (.invokestatic 18, 3) := by decide +kernel
theorem dX3_gather_8 : decode cX3_gather 8 = .ok (.aload_n 0, 1) := by decide +kernel
theorem dX3_gather_9 : decode cX3_gather 9 = .ok (.iconst 0, 1) := by decide +kernel
theorem dX3_gather_10 : decode cX3_gather 10 = .ok (.putfield 24, 3) := by decide +kernel
theorem dX3_gather_13 : decode cX3_gather 13 = .ok (.aload_n 1, 1) := by decide +kernel
theorem dX3_gather_14 : decode cX3_gather 14 = .ok (.invokevirtual 28, 3) := by decide +kernel
theorem dX3_gather_17 : decode cX3_gather 17 = .ok (.istore_n 2, 1) := by decide +kernel
theorem dX3_gather_18 : decode cX3_gather 18 = .ok (.iconst 0, 1) := by decide +kernel
theorem dX3_gather_19 : decode cX3_gather 19 = .ok (.istore_n 3, 1) := by decide +kernel
theorem dX3_gather_20 : decode cX3_gather 20 = .ok (.iload_n 3, 1) := by decide +kernel
theorem dX3_gather_21 : decode cX3_gather 21 = .ok (.iload_n 2, 1) := by decide +kernel
theorem dX3_gather_22 : decode cX3_gather 22 = .ok (.if_icmp .ge 76, 3) := by decide +kernel
theorem dX3_gather_25 : decode cX3_gather 25 = .ok (.aload_n 1, 1) := by decide +kernel
theorem dX3_gather_26 : decode cX3_gather 26 = .ok (.iload_n 3, 1) := by decide +kernel
theorem dX3_gather_27 : decode cX3_gather 27 = .ok (.invokevirtual 33, 3) := by decide +kernel
theorem dX3_gather_30 : decode cX3_gather 30 = .ok (.istore 4, 2) := by decide +kernel
theorem dX3_gather_32 : decode cX3_gather 32 = .ok (.aload_n 0, 1) := by decide +kernel
theorem dX3_gather_33 : decode cX3_gather 33 = .ok (.iload 4, 2) := by decide +kernel
theorem dX3_gather_35 : decode cX3_gather 35 = .ok (.invokevirtual 37, 3) := by decide +kernel
theorem dX3_gather_38 : decode cX3_gather 38 = .ok (.istore 5, 2) := by decide +kernel
theorem dX3_gather_40 : decode cX3_gather 40 = .ok (.aload_n 0, 1) := by decide +kernel
theorem dX3_gather_41 : decode cX3_gather 41 = .ok (.getfield 15, 3) := by decide +kernel
theorem dX3_gather_44 : decode cX3_gather 44 = .ok (.iload 5, 2) := by decide +kernel
theorem dX3_gather_46 : decode cX3_gather 46 = .ok (.iaload, 1) := by decide +kernel
theorem dX3_gather_47 : decode cX3_gather 47 = .ok (.ifCond .ne 45, 3) := by decide +kernel
theorem dX3_gather_50 : decode cX3_gather 50 = .ok (.aload_n 0, 1) := by decide +kernel
theorem dX3_gather_51 : decode cX3_gather 51 = .ok (.getfield 24, 3) := by decide +kernel
theorem dX3_gather_54 : decode cX3_gather 54 = .ok (.sipush 4096, 3) := by decide +kernel
theorem dX3_gather_57 : decode cX3_gather 57 = .ok (.if_icmp .ge 35, 3) := by decide +kernel
theorem dX3_gather_60 : decode cX3_gather 60 = .ok (.aload_n 0, 1) := by decide +kernel
theorem dX3_gather_61 : decode cX3_gather 61 = .ok (.getfield 9, 3) := by decide +kernel
theorem dX3_gather_64 : decode cX3_gather 64 = .ok (.aload_n 0, 1) := by decide +kernel
theorem dX3_gather_65 : decode cX3_gather 65 = .ok (.getfield 24, 3) := by decide +kernel
theorem dX3_gather_68 : decode cX3_gather 68 = .ok (.iload 4, 2) := by decide +kernel
theorem dX3_gather_70 : decode cX3_gather 70 = .ok (.iastore, 1) := by decide +kernel
theorem dX3_gather_71 : decode cX3_gather 71 = .ok (.aload_n 0, 1) := by decide +kernel
theorem dX3_gather_72 : decode cX3_gather 72 = .ok (.dup, 1) := by decide +kernel
theorem dX3_gather_73 : decode cX3_gather 73 = .ok (.getfield 24, 3) := by decide +kernel
theorem dX3_gather_76 : decode cX3_gather 76 = .ok (.iconst 1, 1) := by decide +kernel
theorem dX3_gather_77 : decode cX3_gather 77 = .ok (.iadd, 1) := by decide +kernel
theorem dX3_gather_78 : decode cX3_gather 78 = .ok (.putfield 24, 3) := by decide +kernel
theorem dX3_gather_81 : decode cX3_gather 81 = .ok (.aload_n 0, 1) := by decide +kernel
theorem dX3_gather_82 : decode cX3_gather 82 = .ok (.getfield 15, 3) := by decide +kernel
theorem dX3_gather_85 : decode cX3_gather 85 = .ok (.iload 5, 2) := by decide +kernel
theorem dX3_gather_87 : decode cX3_gather 87 = .ok (.aload_n 0, 1) := by decide +kernel
theorem dX3_gather_88 : decode cX3_gather 88 = .ok (.getfield 24, 3) := by decide +kernel
theorem dX3_gather_91 : decode cX3_gather 91 = .ok (.iastore, 1) := by decide +kernel
theorem dX3_gather_92 : decode cX3_gather 92 = .ok (.iinc 3 1, 3) := by decide +kernel
theorem dX3_gather_95 : decode cX3_gather 95 = .ok (.goto (-75), 3) := by decide +kernel
theorem dX3_gather_98 : decode cX3_gather 98 = .ok (.return_, 1) := by decide +kernel
theorem dX3_numberOf_0 : decode cX3_numberOf 0 = .ok (.aload_n 0, 1) := by decide +kernel
theorem dX3_numberOf_1 : decode cX3_numberOf 1 = .ok (.getfield 15, 3) := by decide +kernel
theorem dX3_numberOf_4 : decode cX3_numberOf 4 = .ok (.aload_n 0, 1) := by decide +kernel
theorem dX3_numberOf_5 : decode cX3_numberOf 5 = .ok (.iload_n 1, 1) := by decide +kernel
theorem dX3_numberOf_6 : decode cX3_numberOf 6 = .ok (.invokevirtual 37, 3) := by decide +kernel
theorem dX3_numberOf_9 : decode cX3_numberOf 9 = .ok (.iaload, 1) := by decide +kernel
theorem dX3_numberOf_10 : decode cX3_numberOf 10 = .ok (.iconst 1, 1) := by decide +kernel
theorem dX3_numberOf_11 : decode cX3_numberOf 11 = .ok (.isub, 1) := by decide +kernel
theorem dX3_numberOf_12 : decode cX3_numberOf 12 = .ok (.iconst 0, 1) := by decide +kernel
theorem dX3_numberOf_13 : decode cX3_numberOf 13 = .ok (.invokestatic 40, 3) := by decide +kernel
theorem dX3_numberOf_16 : decode cX3_numberOf 16 = .ok (.ireturn, 1) := by decide +kernel
theorem dX3_get_0 : decode cX3_get 0 = .ok (.iload_n 1, 1) := by decide +kernel
theorem dX3_get_1 : decode cX3_get 1 = .ok (.ifCond .lt 20, 3) := by decide +kernel
theorem dX3_get_4 : decode cX3_get 4 = .ok (.iload_n 1, 1) := by decide +kernel
theorem dX3_get_5 : decode cX3_get 5 = .ok (.aload_n 0, 1) := by decide +kernel
theorem dX3_get_6 : decode cX3_get 6 = .ok (.getfield 24, 3) := by decide +kernel
theorem dX3_get_9 : decode cX3_get 9 = .ok (.if_icmp .ge 12, 3) := by decide +kernel
theorem dX3_get_12 : decode cX3_get 12 = .ok (.aload_n 0, 1) := by decide +kernel
theorem dX3_get_13 : decode cX3_get 13 = .ok (.getfield 9, 3) := by decide +kernel
theorem dX3_get_16 : decode cX3_get 16 = .ok (.iload_n 1, 1) := by decide +kernel
theorem dX3_get_17 : decode cX3_get 17 = .ok (.iaload, 1) := by decide +kernel
theorem dX3_get_18 : decode cX3_get 18 = .ok (.goto 4, 3) := by decide +kernel
theorem dX3_get_21 : decode cX3_get 21 = .ok (.iconst 0, 1) := by decide +kernel
theorem dX3_get_22 : decode cX3_get 22 = .ok (.ireturn, 1) := by decide +kernel
theorem dX3_slotOf_0 : decode cX3_slotOf 0 = .ok (.iload_n 1, 1) := by decide +kernel
theorem dX3_slotOf_1 : decode cX3_slotOf 1 = .ok (.iload_n 1, 1) := by decide +kernel
theorem dX3_slotOf_2 : decode cX3_slotOf 2 = .ok (.bipush 15, 2) := by decide +kernel
theorem dX3_slotOf_4 : decode cX3_slotOf 4 = .ok (.iushr, 1) := by decide +kernel
theorem dX3_slotOf_5 : decode cX3_slotOf 5 = .ok (.ixor, 1) := by decide +kernel
theorem dX3_slotOf_6 : decode cX3_slotOf 6 = .ok (.ldc 46, 2) := by decide +kernel
theorem dX3_slotOf_8 : decode cX3_slotOf 8 = .ok (.imul, 1) := by decide +kernel
theorem dX3_slotOf_9 : decode cX3_slotOf 9 = .ok (.istore_n 2, 1) := by decide +kernel
theorem dX3_slotOf_10 : decode cX3_slotOf 10 = .ok (.iload_n 2, 1) := by decide +kernel
theorem dX3_slotOf_11 : decode cX3_slotOf 11 = .ok (.iload_n 2, 1) := by decide +kernel
theorem dX3_slotOf_12 : decode cX3_slotOf 12 = .ok (.bipush 12, 2) := by decide +kernel
theorem dX3_slotOf_14 : decode cX3_slotOf 14 = .ok (.iushr, 1) := by decide +kernel
theorem dX3_slotOf_15 : decode cX3_slotOf 15 = .ok (.ixor, 1) := by decide +kernel
theorem dX3_slotOf_16 : decode cX3_slotOf 16 = .ok (.ldc 47, 2) := by decide +kernel
theorem dX3_slotOf_18 : decode cX3_slotOf 18 = .ok (.imul, 1) := by decide +kernel
theorem dX3_slotOf_19 : decode cX3_slotOf 19 = .ok (.bipush 19, 2) := by decide +kernel
theorem dX3_slotOf_21 : decode cX3_slotOf 21 = .ok (.iushr, 1) := by decide +kernel
theorem dX3_slotOf_22 : decode cX3_slotOf 22 = .ok (.istore_n 3, 1) := by decide +kernel
theorem dX3_slotOf_23 : decode cX3_slotOf 23 = .ok (.iconst 0, 1) := by decide +kernel
theorem dX3_slotOf_24 : decode cX3_slotOf 24 = .ok (.istore 4, 2) := by decide +kernel
theorem dX3_slotOf_26 : decode cX3_slotOf 26 = .ok (.iload 4, 2) := by decide +kernel
theorem dX3_slotOf_28 : decode cX3_slotOf 28 = .ok (.sipush 8192, 3) := by decide +kernel
theorem dX3_slotOf_31 : decode cX3_slotOf 31 = .ok (.if_icmp .ge 45, 3) := by decide +kernel
theorem dX3_slotOf_34 : decode cX3_slotOf 34 = .ok (.aload_n 0, 1) := by decide +kernel
theorem dX3_slotOf_35 : decode cX3_slotOf 35 = .ok (.getfield 15, 3) := by decide +kernel
theorem dX3_slotOf_38 : decode cX3_slotOf 38 = .ok (.iload_n 3, 1) := by decide +kernel
theorem dX3_slotOf_39 : decode cX3_slotOf 39 = .ok (.iaload, 1) := by decide +kernel
theorem dX3_slotOf_40 : decode cX3_slotOf 40 = .ok (.iconst 1, 1) := by decide +kernel
theorem dX3_slotOf_41 : decode cX3_slotOf 41 = .ok (.isub, 1) := by decide +kernel
theorem dX3_slotOf_42 : decode cX3_slotOf 42 = .ok (.istore 5, 2) := by decide +kernel
theorem dX3_slotOf_44 : decode cX3_slotOf 44 = .ok (.iload 5, 2) := by decide +kernel
theorem dX3_slotOf_46 : decode cX3_slotOf 46 = .ok (.ifCond .lt 14, 3) := by decide +kernel
theorem dX3_slotOf_49 : decode cX3_slotOf 49 = .ok (.aload_n 0, 1) := by decide +kernel
theorem dX3_slotOf_50 : decode cX3_slotOf 50 = .ok (.getfield 9, 3) := by decide +kernel
theorem dX3_slotOf_53 : decode cX3_slotOf 53 = .ok (.iload 5, 2) := by decide +kernel
theorem dX3_slotOf_55 : decode cX3_slotOf 55 = .ok (.iaload, 1) := by decide +kernel
theorem dX3_slotOf_56 : decode cX3_slotOf 56 = .ok (.iload_n 1, 1) := by decide +kernel
theorem dX3_slotOf_57 : decode cX3_slotOf 57 = .ok (.if_icmp .ne 5, 3) := by decide +kernel
theorem dX3_slotOf_60 : decode cX3_slotOf 60 = .ok (.iload_n 3, 1) := by decide +kernel
theorem dX3_slotOf_61 : decode cX3_slotOf 61 = .ok (.ireturn, 1) := by decide +kernel
theorem dX3_slotOf_62 : decode cX3_slotOf 62 = .ok (.iload_n 3, 1) := by decide +kernel
theorem dX3_slotOf_63 : decode cX3_slotOf 63 = .ok (.iconst 1, 1) := by decide +kernel
theorem dX3_slotOf_64 : decode cX3_slotOf 64 = .ok (.iadd, 1) := by decide +kernel
theorem dX3_slotOf_65 : decode cX3_slotOf 65 = .ok (.sipush 8191, 3) := by decide +kernel
theorem dX3_slotOf_68 : decode cX3_slotOf 68 = .ok (.iand, 1) := by decide +kernel
theorem dX3_slotOf_69 : decode cX3_slotOf 69 = .ok (.istore_n 3, 1) := by decide +kernel
theorem dX3_slotOf_70 : decode cX3_slotOf 70 = .ok (.iinc 4 1, 3) := by decide +kernel
theorem dX3_slotOf_73 : decode cX3_slotOf 73 = .ok (.goto (-47), 3) := by decide +kernel
theorem dX3_slotOf_76 : decode cX3_slotOf 76 = .ok (.iload_n 3, 1) := by decide +kernel
theorem dX3_slotOf_77 : decode cX3_slotOf 77 = .ok (.ireturn, 1) := by decide +kernel
