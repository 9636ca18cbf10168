theorem dX1_init_0 : decode cX1_init 0 = .ok (.aload_n 0, 1) := by decide +kernel
theorem dX1_init_1 : decode cX1_init 1 = .ok (.invokespecial 3, 3) := by decide +kernel
theorem dX1_init_4 : decode cX1_init 4 = .ok (.aload_n 0, 1) := by decide +kernel
theorem dX1_init_5 : decode cX1_init 5 = .ok (.ldc 9, 2) := by decide +kernel
theorem dX1_init_7 : decode cX1_init 7 = .ok (.newarray .byte, 2) := by decide +kernel
theorem dX1_init_9 : decode cX1_init 9 = .ok (.putfield 10, 3) := by decide +kernel
theorem dX1_init_12 : decode cX1_init 12 = .ok (.return_, 1) := by decide +kernel
theorem dX1_at_0 : decode cX1_at 0 = .ok (.iload_n 1, 1) := by decide +kernel
theorem dX1_at_1 : decode cX1_at 1 = .ok (.ifCond .lt 24, 3) := by decide +kernel
theorem dX1_at_4 : decode cX1_at 4 = .ok (.iload_n 1, 1) := by decide +kernel
theorem dX1_at_5 : decode cX1_at 5 = .ok (.aload_n 0, 1) := by decide +kernel
theorem dX1_at_6 : decode cX1_at 6 = .ok (.getfield 16, 3) := by decide +kernel
theorem dX1_at_9 : decode cX1_at 9 = .ok (.if_icmp .ge 16, 3) := by decide +kernel
theorem dX1_at_12 : decode cX1_at 12 = .ok (.aload_n 0, 1) := by decide +kernel
theorem dX1_at_13 : decode cX1_at 13 = .ok (.getfield 10, 3) := by decide +kernel
theorem dX1_at_16 : decode cX1_at 16 = .ok (.iload_n 1, 1) := by decide +kernel
theorem dX1_at_17 : decode cX1_at 17 = .ok (.baload, 1) := by decide +kernel
theorem dX1_at_18 : decode cX1_at 18 = .ok (.sipush 255, 3) := by decide +kernel
theorem dX1_at_21 : decode cX1_at 21 = .ok (.iand, 1) := by decide +kernel
theorem dX1_at_22 : decode cX1_at 22 = .ok (.goto 4, 3) := by decide +kernel
theorem dX1_at_25 : decode cX1_at 25 = .ok (.iconst (-1), 1) := by decide +kernel
theorem dX1_at_26 : decode cX1_at 26 = .ok (.ireturn, 1) := by decide +kernel
theorem dX1_add_0 : decode cX1_add 0 = .ok (.aload_n 0, 1) := by decide +kernel
theorem dX1_add_1 : decode cX1_add 1 = .ok (.getfield 16, 3) := by decide +kernel
theorem dX1_add_4 : decode cX1_add 4 = .ok (.ldc 9, 2) := by decide +kernel
theorem dX1_add_6 : decode cX1_add 6 = .ok (.if_icmp .ge 24, 3) := by decide +kernel
theorem dX1_add_9 : decode cX1_add 9 = .ok (.aload_n 0, 1) := by decide +kernel
theorem dX1_add_10 : decode cX1_add 10 = .ok (.getfield 10, 3) := by decide +kernel
theorem dX1_add_13 : decode cX1_add 13 = .ok (.aload_n 0, 1) := by decide +kernel
theorem dX1_add_14 : decode cX1_add 14 = .ok (.getfield 16, 3) := by decide +kernel
theorem dX1_add_17 : decode cX1_add 17 = .ok (.iload_n 1, 1) := by decide +kernel
theorem dX1_add_18 : decode cX1_add 18 = .ok (.i2b, 1) := by decide +kernel
theorem dX1_add_19 : decode cX1_add 19 = .ok (.bastore, 1) := by decide +kernel
theorem dX1_add_20 : decode cX1_add 20 = .ok (.aload_n 0, 1) := by decide +kernel
theorem dX1_add_21 : decode cX1_add 21 = .ok (.dup, 1) := by decide +kernel
theorem dX1_add_22 : decode cX1_add 22 = .ok (.getfield 16, 3) := by decide +kernel
theorem dX1_add_25 : decode cX1_add 25 = .ok (.iconst 1, 1) := by decide +kernel
theorem dX1_add_26 : decode cX1_add 26 = .ok (.iadd, 1) := by decide +kernel
theorem dX1_add_27 : decode cX1_add 27 = .ok (.putfield 16, 3) := by decide +kernel
theorem dX1_add_30 : decode cX1_add 30 = .ok (.return_, 1) := by decide +kernel
theorem dX1_addZeros_0 : decode cX1_addZeros 0 = .ok (.iconst 0, 1) := by decide +kernel
theorem dX1_addZeros_1 : decode cX1_addZeros 1 = .ok (.istore_n 2, 1) := by decide +kernel
theorem dX1_addZeros_2 : decode cX1_addZeros 2 = .ok (.iload_n 2, 1) := by decide +kernel
theorem dX1_addZeros_3 : decode cX1_addZeros 3 = .ok (.iload_n 1, 1) := by decide +kernel
theorem dX1_addZeros_4 : decode cX1_addZeros 4 = .ok (.if_icmp .ge 14, 3) := by decide +kernel
theorem dX1_addZeros_7 : decode cX1_addZeros 7 = .ok (.aload_n 0, 1) := by decide +kernel
theorem dX1_addZeros_8 : decode cX1_addZeros 8 = .ok (.iconst 0, 1) := by decide +kernel
theorem dX1_addZeros_9 : decode cX1_addZeros 9 = .ok (.invokevirtual 20, 3) := by decide +kernel
theorem dX1_addZeros_12 : decode cX1_addZeros 12 = .ok (.iinc 2 1, 3) := by decide +kernel
theorem dX1_addZeros_15 : decode cX1_addZeros 15 = .ok (.goto (-13), 3) := by decide +kernel
theorem dX1_addZeros_18 : decode cX1_addZeros 18 = .ok (.return_, 1) := by decide +kernel
theorem dX1_addLow2_0 : decode cX1_addLow2 0 = .ok (.aload_n 0, 1) := by decide +kernel
theorem dX1_addLow2_1 : decode cX1_addLow2 1 = .ok (.iload_n 1, 1) := by decide +kernel
theorem dX1_addLow2_2 : decode cX1_addLow2 2 = .ok (.invokevirtual 20, 3) := by decide +kernel
theorem dX1_addLow2_5 : decode cX1_addLow2 5 = .ok (.aload_n 0, 1) := by decide +kernel
theorem dX1_addLow2_6 : decode cX1_addLow2 6 = .ok (.iload_n 1, 1) := by decide +kernel
theorem dX1_addLow2_7 : decode cX1_addLow2 7 = .ok (.bipush 8, 2) := by decide +kernel
theorem dX1_addLow2_9 : decode cX1_addLow2 9 = .ok (.ishr, 1) := by decide +kernel
theorem dX1_addLow2_10 : decode cX1_addLow2 10 = .ok (.invokevirtual 20, 3) := by decide +kernel
theorem dX1_addLow2_13 : decode cX1_addLow2 13 = .ok (.return_, 1) := by decide +kernel
theorem dX1_addLow4_0 : decode cX1_addLow4 0 = .ok (.aload_n 0, 1) := by decide +kernel
theorem dX1_addLow4_1 : decode cX1_addLow4 1 = .ok (.iload_n 1, 1) := by decide +kernel
theorem dX1_addLow4_2 : decode cX1_addLow4 2 = .ok (.invokevirtual 24, 3) := by decide +kernel
theorem dX1_addLow4_5 : decode cX1_addLow4 5 = .ok (.aload_n 0, 1) := by decide +kernel
theorem dX1_addLow4_6 : decode cX1_addLow4 6 = .ok (.iload_n 1, 1) := by decide +kernel
theorem dX1_addLow4_7 : decode cX1_addLow4 7 = .ok (.bipush 16, 2) := by decide +kernel
theorem dX1_addLow4_9 : decode cX1_addLow4 9 = .ok (.ishr, 1) := by decide +kernel
theorem dX1_addLow4_10 : decode cX1_addLow4 10 = .ok (.invokevirtual 24, 3) := by decide +kernel
theorem dX1_addLow4_13 : decode cX1_addLow4 13 = .ok (.return_, 1) := by decide +kernel
theorem dX1_addHigh4_0 : decode cX1_addHigh4 0 = .ok (.aload_n 0, 1) := by decide +kernel
theorem dX1_addHigh4_1 : decode cX1_addHigh4 1 = .ok (.iload_n 1, 1) := by decide +kernel
theorem dX1_addHigh4_2 : decode cX1_addHigh4 2 = .ok (.bipush 24, 2) := by decide +kernel
theorem dX1_addHigh4_4 : decode cX1_addHigh4 4 = .ok (.ishr, 1) := by decide +kernel
theorem dX1_addHigh4_5 : decode cX1_addHigh4 5 = .ok (.invokevirtual 20, 3) := by decide +kernel
theorem dX1_addHigh4_8 : decode cX1_addHigh4 8 = .ok (.aload_n 0, 1) := by decide +kernel
theorem dX1_addHigh4_9 : decode cX1_addHigh4 9 = .ok (.iload_n 1, 1) := by decide +kernel
theorem dX1_addHigh4_10 : decode cX1_addHigh4 10 = .ok (.bipush 16, 2) := by decide +kernel
theorem dX1_addHigh4_12 : decode cX1_addHigh4 12 = .ok (.ishr, 1) := by decide +kernel
theorem dX1_addHigh4_13 : decode cX1_addHigh4 13 = .ok (.invokevirtual 20, 3) := by decide +kernel
theorem dX1_addHigh4_16 : decode cX1_addHigh4 16 = .ok (.aload_n 0, 1) := by decide +kernel
theorem dX1_addHigh4_17 : decode cX1_addHigh4 17 = .ok (.iload_n 1, 1) := by decide +kernel
theorem dX1_addHigh4_18 : decode cX1_addHigh4 18 = .ok (.bipush 8, 2) := by decide +kernel
theorem dX1_addHigh4_20 : decode cX1_addHigh4 20 = .ok (.ishr, 1) := by decide +kernel
theorem dX1_addHigh4_21 : decode cX1_addHigh4 21 = .ok (.invokevirtual 20, 3) := by decide +kernel
theorem dX1_addHigh4_24 : decode cX1_addHigh4 24 = .ok (.aload_n 0, 1) := by decide +kernel
theorem dX1_addHigh4_25 : decode cX1_addHigh4 25 = .ok (.iload_n 1, 1) := by decide +kernel
theorem dX1_addHigh4_26 : decode cX1_addHigh4 26 = .ok (.invokevirtual 20, 3) := by decide +kernel
theorem dX1_addHigh4_29 : decode cX1_addHigh4 29 = .ok (.return_, 1) := by decide +kernel
theorem dX1_addDecimal_0 : decode cX1_addDecimal 0 = .ok (.iload_n 1, 1) := by decide +kernel
theorem dX1_addDecimal_1 : decode cX1_addDecimal 1 = .ok (.sipush 1000, 3) := by decide +kernel
theorem dX1_addDecimal_4 : decode cX1_addDecimal 4 = .ok (.if_icmp .lt 15, 3) := by decide +kernel
theorem dX1_addDecimal_7 : decode cX1_addDecimal 7 = .ok (.aload_n 0, 1) := by decide +kernel
theorem dX1_addDecimal_8 : decode cX1_addDecimal 8 = .ok (.bipush 48, 2) := by decide +kernel
theorem dX1_addDecimal_10 : decode cX1_addDecimal 10 = .ok (.iload_n 1, 1) := by decide +kernel
theorem dX1_addDecimal_11 : decode cX1_addDecimal 11 = .ok (.sipush 1000, 3) := by decide +kernel
theorem dX1_addDecimal_14 : decode cX1_addDecimal 14 = .ok (.idiv, 1) := by decide +kernel
theorem dX1_addDecimal_15 : decode cX1_addDecimal 15 = .ok (.iadd, 1) := by decide +kernel
theorem dX1_addDecimal_16 : decode cX1_addDecimal 16 = .ok (.invokevirtual 20, 3) := by decide +kernel
theorem dX1_addDecimal_19 : decode cX1_addDecimal 19 = .ok (.iload_n 1, 1) := by decide +kernel
theorem dX1_addDecimal_20 : decode cX1_addDecimal 20 = .ok (.bipush 100, 2) := by decide +kernel
theorem dX1_addDecimal_22 : decode cX1_addDecimal 22 = .ok (.if_icmp .lt 17, 3) := by decide +kernel
theorem dX1_addDecimal_25 : decode cX1_addDecimal 25 = .ok (.aload_n 0, 1) := by decide +kernel
theorem dX1_addDecimal_26 : decode cX1_addDecimal 26 = .ok (.bipush 48, 2) := by decide +kernel
theorem dX1_addDecimal_28 : decode cX1_addDecimal 28 = .ok (.iload_n 1, 1) := by decide +kernel
theorem dX1_addDecimal_29 : decode cX1_addDecimal 29 = .ok (.bipush 100, 2) := by decide +kernel
theorem dX1_addDecimal_31 : decode cX1_addDecimal 31 = .ok (.idiv, 1) := by decide +kernel
theorem dX1_addDecimal_32 : decode cX1_addDecimal 32 = .ok (.bipush 10, 2) := by decide +kernel
theorem dX1_addDecimal_34 : decode cX1_addDecimal 34 = .ok (.irem, 1) := by decide +kernel
theorem dX1_addDecimal_35 : decode cX1_addDecimal 35 = .ok (.iadd, 1) := by decide +kernel
theorem dX1_addDecimal_36 : decode cX1_addDecimal 36 = .ok (.invokevirtual 20, 3) := by decide +kernel
theorem dX1_addDecimal_39 : decode cX1_addDecimal 39 = .ok (.iload_n 1, 1) := by decide +kernel
theorem dX1_addDecimal_40 : decode cX1_addDecimal 40 = .ok (.bipush 10, 2) := by decide +kernel
theorem dX1_addDecimal_42 : decode cX1_addDecimal 42 = .ok (.if_icmp .lt 17, 3) := by decide +kernel
theorem dX1_addDecimal_45 : decode cX1_addDecimal 45 = .ok (.aload_n 0, 1) := by decide +kernel
theorem dX1_addDecimal_46 : decode cX1_addDecimal 46 = .ok (.bipush 48, 2) := by decide +kernel
theorem dX1_addDecimal_48 : decode cX1_addDecimal 48 = .ok (.iload_n 1, 1) := by decide +kernel
theorem dX1_addDecimal_49 : decode cX1_addDecimal 49 = .ok (.bipush 10, 2) := by decide +kernel
theorem dX1_addDecimal_51 : decode cX1_addDecimal 51 = .ok (.idiv, 1) := by decide +kernel
theorem dX1_addDecimal_52 : decode cX1_addDecimal 52 = .ok (.bipush 10, 2) := by decide +kernel
theorem dX1_addDecimal_54 : decode cX1_addDecimal 54 = .ok (.irem, 1) := by decide +kernel
theorem dX1_addDecimal_55 : decode cX1_addDecimal 55 = .ok (.iadd, 1) := by decide +kernel
theorem dX1_addDecimal_56 : decode cX1_addDecimal 56 = .ok (.invokevirtual 20, 3) := by decide +kernel
theorem dX1_addDecimal_59 : decode cX1_addDecimal 59 = .ok (.aload_n 0, 1) := by decide +kernel
theorem dX1_addDecimal_60 : decode cX1_addDecimal 60 = .ok (.bipush 48, 2) := by decide +kernel
theorem dX1_addDecimal_62 : decode cX1_addDecimal 62 = .ok (.iload_n 1, 1) := by decide +kernel
theorem dX1_addDecimal_63 : decode cX1_addDecimal 63 = .ok (.bipush 10, 2) := by decide +kernel
theorem dX1_addDecimal_65 : decode cX1_addDecimal 65 = .ok (.irem, 1) := by decide +kernel
theorem dX1_addDecimal_66 : decode cX1_addDecimal 66 = .ok (.iadd, 1) := by decide +kernel
theorem dX1_addDecimal_67 : decode cX1_addDecimal 67 = .ok (.invokevirtual 20, 3) := by decide +kernel
theorem dX1_addDecimal_70 : decode cX1_addDecimal 70 = .ok (.return_, 1) := by decide +kernel
theorem dX1_setLow4_0 : decode cX1_setLow4 0 = .ok (.iload_n 1, 1) := by decide +kernel
theorem dX1_setLow4_1 : decode cX1_setLow4 1 = .ok (.ifCond .lt 13, 3) := by decide +kernel
theorem dX1_setLow4_4 : decode cX1_setLow4 4 = .ok (.iload_n 1, 1) := by decide +kernel
theorem dX1_setLow4_5 : decode cX1_setLow4 5 = .ok (.aload_n 0, 1) := by decide +kernel
theorem dX1_setLow4_6 : decode cX1_setLow4 6 = .ok (.getfield 16, 3) := by decide +kernel
theorem dX1_setLow4_9 : decode cX1_setLow4 9 = .ok (.iconst 4, 1) := by decide +kernel
theorem dX1_setLow4_10 : decode cX1_setLow4 10 = .ok (.isub, 1) := by decide +kernel
theorem dX1_setLow4_11 : decode cX1_setLow4 11 = .ok (.if_icmp .le 4, 3) := by decide +kernel
theorem dX1_setLow4_14 : decode cX1_setLow4 14 = .ok (.return_, 1) := by decide +kernel
theorem dX1_setLow4_15 : decode cX1_setLow4 15 = .ok (.iconst 0, 1) := by decide +kernel
theorem dX1_setLow4_16 : decode cX1_setLow4 16 = .ok (.istore_n 3, 1) := by decide +kernel
theorem dX1_setLow4_17 : decode cX1_setLow4 17 = .ok (.iload_n 3, 1) := by decide +kernel
theorem dX1_setLow4_18 : decode cX1_setLow4 18 = .ok (.iconst 4, 1) := by decide +kernel
theorem dX1_setLow4_19 : decode cX1_setLow4 19 = .ok (.if_icmp .ge 24, 3) := by decide +kernel
theorem dX1_setLow4_22 : decode cX1_setLow4 22 = .ok (.aload_n 0, 1) := by decide +kernel
theorem dX1_setLow4_23 : decode cX1_setLow4 23 = .ok (.getfield 10, 3) := by decide +kernel
theorem dX1_setLow4_26 : decode cX1_setLow4 26 = .ok (.iload_n 1, 1) := by decide +kernel
theorem dX1_setLow4_27 : decode cX1_setLow4 27 = .ok (.iload_n 3, 1) := by decide +kernel
theorem dX1_setLow4_28 : decode cX1_setLow4 28 = .ok (.iadd, 1) := by decide +kernel
theorem dX1_setLow4_29 : decode cX1_setLow4 29 = .ok (.iload_n 2, 1) := by decide +kernel
theorem dX1_setLow4_30 : decode cX1_setLow4 30 = .ok (.bipush 8, 2) := by decide +kernel
theorem dX1_setLow4_32 : decode cX1_setLow4 32 = .ok (.iload_n 3, 1) := by decide +kernel
theorem dX1_setLow4_33 : decode cX1_setLow4 33 = .ok (.imul, 1) := by decide +kernel
theorem dX1_setLow4_34 : decode cX1_setLow4 34 = .ok (.ishr, 1) := by decide +kernel
theorem dX1_setLow4_35 : decode cX1_setLow4 35 = .ok (.i2b, 1) := by decide +kernel
theorem dX1_setLow4_36 : decode cX1_setLow4 36 = .ok (.bastore, 1) := by decide +kernel
theorem dX1_setLow4_37 : decode cX1_setLow4 37 = .ok (.iinc 3 1, 3) := by decide +kernel
theorem dX1_setLow4_40 : decode cX1_setLow4 40 = .ok (.goto (-23), 3) := by decide +kernel
theorem dX1_setLow4_43 : decode cX1_setLow4 43 = .ok (.return_, 1) := by decide +kernel
theorem dX1_takeFrom_0 : decode cX1_takeFrom 0 = .ok (.aload_n 0, 1) := by decide +kernel
theorem dX1_takeFrom_1 : decode cX1_takeFrom 1 = .ok (.aload_n 1, 1) := by decide +kernel
theorem dX1_takeFrom_2 : decode cX1_takeFrom 2 = .ok (.getfield 16, 3) := by decide +kernel
theorem dX1_takeFrom_5 : decode cX1_takeFrom 5 = .ok (.putfield 16, 3) := by decide +kernel
theorem dX1_takeFrom_8 : decode cX1_takeFrom 8 = .ok (.aload_n 1, 1) := by decide +kernel
theorem dX1_takeFrom_9 : decode cX1_takeFrom 9 = .ok (.getfield 10, 3) := by decide +kernel
theorem dX1_takeFrom_12 : decode cX1_takeFrom 12 = .ok (.iconst 0, 1) := by decide +kernel
theorem dX1_takeFrom_13 : decode cX1_takeFrom 13 = .ok (.aload_n 0, 1) := by decide +kernel
theorem dX1_takeFrom_14 : decode cX1_takeFrom 14 = .ok (.getfield 10, 3) := by decide +kernel
theorem dX1_takeFrom_17 : decode cX1_takeFrom 17 = .ok (.iconst 0, 1) := by decide +kernel
theorem dX1_takeFrom_18 : decode cX1_takeFrom 18 = .ok (.aload_n 0, 1) := by decide +kernel
theorem dX1_takeFrom_19 : decode cX1_takeFrom 19 = .ok (.getfield 16, 3) := by decide +kernel
theorem dX1_takeFrom_22 : decode cX1_takeFrom 22 = .ok (.invokestatic 27, 3) := by decide +kernel
theorem dX1_takeFrom_25 : decode cX1_takeFrom 25 = .ok (.return_, 1) := by decide +kernel
