theorem dX11_colourCount_91 : decode cX11_colourCount 91 = .ok (.iload_n 3, 1) := by decide +kernel
theorem dX11_colourCount_92 : decode cX11_colourCount 92 = .ok (.iload 4, 2) := by decide +kernel
theorem dX11_colourCount_94 : decode cX11_colourCount 94 = .ok (.iastore, 1) := by decide +kernel
theorem dX11_colourCount_95 : decode cX11_colourCount 95 = .ok (.aload_n 0, 1) := by decide +kernel
theorem dX11_colourCount_96 : decode cX11_colourCount 96 = .ok (.iconst 0, 1) := by decide +kernel
theorem dX11_colourCount_97 : decode cX11_colourCount 97 = .ok (.iload_n 3, 1) := by decide +kernel
theorem dX11_colourCount_98 : decode cX11_colourCount 98 = .ok (.invokevirtual 259, 3) := by decide +kernel
theorem dX11_colourCount_101 : decode cX11_colourCount 101 = .ok (.iinc 3 (-1), 3) := by decide +kernel
theorem dX11_colourCount_104 : decode cX11_colourCount 104 = .ok (.goto (-41), 3) := by decide +kernel
theorem dX11_colourCount_107 : decode cX11_colourCount 107 = .ok (.iconst 1, 1) := by decide +kernel
theorem dX11_colourCount_108 : decode cX11_colourCount 108 = .ok (.istore_n 3, 1) := by decide +kernel
theorem dX11_colourCount_109 : decode cX11_colourCount 109 = .ok (.iconst 1, 1) := by decide +kernel
theorem dX11_colourCount_110 : decode cX11_colourCount 110 = .ok (.istore 4, 2) := by decide +kernel
theorem dX11_colourCount_112 : decode cX11_colourCount 112 = .ok (.iload 4, 2) := by decide +kernel
theorem dX11_colourCount_114 : decode cX11_colourCount 114 = .ok (.iload_n 2, 1) := by decide +kernel
theorem dX11_colourCount_115 : decode cX11_colourCount 115 = .ok (.if_icmp .ge 31, 3) := by decide +kernel
theorem dX11_colourCount_118 : decode cX11_colourCount 118 = .ok (.aload_n 0, 1) := by decide +kernel
theorem dX11_colourCount_119 : decode cX11_colourCount 119 = .ok (.getfield 55, 3) := by decide +kernel
theorem dX11_colourCount_122 : decode cX11_colourCount 122 = .ok (.iload 4, 2) := by decide +kernel
theorem dX11_colourCount_124 : decode cX11_colourCount 124 = .ok (.iaload, 1) := by decide +kernel
theorem dX11_colourCount_125 : decode cX11_colourCount 125 = .ok (.aload_n 0, 1) := by decide +kernel
theorem dX11_colourCount_126 : decode cX11_colourCount 126 = .ok (.getfield 55, 3) := by decide +kernel
theorem dX11_colourCount_129 : decode cX11_colourCount 129 = .ok (.iload 4, 2) := by decide +kernel
theorem dX11_colourCount_131 : decode cX11_colourCount 131 = .ok (.iconst 1, 1) := by decide +kernel
theorem dX11_colourCount_132 : decode cX11_colourCount 132 = .ok (.isub, 1) := by decide +kernel
theorem dX11_colourCount_133 : decode cX11_colourCount 133 = .ok (.iaload, 1) := by decide +kernel
theorem dX11_colourCount_134 : decode cX11_colourCount 134 = .ok (.if_icmp .eq 6, 3) := by decide +kernel
theorem dX11_colourCount_137 : decode cX11_colourCount 137 = .ok (.iinc 3 1, 3) := by decide +kernel
theorem dX11_colourCount_140 : decode cX11_colourCount 140 = .ok (.iinc 4 1, 3) := by decide +kernel
theorem dX11_colourCount_143 : decode cX11_colourCount 143 = .ok (.goto (-31), 3) := by decide +kernel
theorem dX11_colourCount_146 : decode cX11_colourCount 146 = .ok (.iload_n 3, 1) := by decide +kernel
theorem dX11_colourCount_147 : decode cX11_colourCount 147 = .ok (.ireturn, 1) := by decide +kernel
theorem dX11_colourOf_0 : decode cX11_colourOf 0 = .ok (.iconst 0, 1) := by decide +kernel
theorem dX11_colourOf_1 : decode cX11_colourOf 1 = .ok (.istore_n 2, 1) := by decide +kernel
theorem dX11_colourOf_2 : decode cX11_colourOf 2 = .ok (.iload_n 2, 1) := by decide +kernel
theorem dX11_colourOf_3 : decode cX11_colourOf 3 = .ok (.aload_n 0, 1) := by decide +kernel
theorem dX11_colourOf_4 : decode cX11_colourOf 4 = .ok (.getfield 262, 3) := by decide +kernel
theorem dX11_colourOf_7 : decode cX11_colourOf 7 = .ok (.if_icmp .ge 21, 3) := by decide +kernel
theorem dX11_colourOf_10 : decode cX11_colourOf 10 = .ok (.aload_n 0, 1) := by decide +kernel
theorem dX11_colourOf_11 : decode cX11_colourOf 11 = .ok (.getfield 58, 3) := by decide +kernel
theorem dX11_colourOf_14 : decode cX11_colourOf 14 = .ok (.iload_n 2, 1) := by decide +kernel
theorem dX11_colourOf_15 : decode cX11_colourOf 15 = .ok (.iaload, 1) := by decide +kernel
theorem dX11_colourOf_16 : decode cX11_colourOf 16 = .ok (.iload_n 1, 1) := by decide +kernel
theorem dX11_colourOf_17 : decode cX11_colourOf 17 = .ok (.if_icmp .ne 5, 3) := by decide +kernel
theorem dX11_colourOf_20 : decode cX11_colourOf 20 = .ok (.iload_n 2, 1) := by decide +kernel
theorem dX11_colourOf_21 : decode cX11_colourOf 21 = .ok (.ireturn, 1) := by decide +kernel
theorem dX11_colourOf_22 : decode cX11_colourOf 22 = .ok (.iinc 2 1, 3) := by decide +kernel
theorem dX11_colourOf_25 : decode cX11_colourOf 25 = .ok (.goto (-23), 3) := by decide +kernel
theorem dX11_colourOf_28 : decode cX11_colourOf 28 = .ok (.iconst (-1), 1) := by decide +kernel
theorem dX11_colourOf_29 : decode cX11_colourOf 29 = .ok (.ireturn, 1) := by decide +kernel
theorem dX11_listColours_0 : decode cX11_listColours 0 = .ok (.aload_n 0, 1) := by decide +kernel
theorem dX11_listColours_1 : decode cX11_listColours 1 = .ok (.iconst 0, 1) := by decide +kernel
theorem dX11_listColours_2 : decode cX11_listColours 2 = .ok (.putfield 262, 3) := by decide +kernel
theorem dX11_listColours_5 : decode cX11_listColours 5 = .ok (.iconst 0, 1) := by decide +kernel
theorem dX11_listColours_6 : decode cX11_listColours 6 = .ok (.istore_n 2, 1) := by decide +kernel
theorem dX11_listColours_7 : decode cX11_listColours 7 = .ok (.iload_n 2, 1) := by decide +kernel
theorem dX11_listColours_8 : decode cX11_listColours 8 = .ok (.aload_n 0, 1) := by decide +kernel
theorem dX11_listColours_9 : decode cX11_listColours 9 = .ok (.iload_n 1, 1) := by decide +kernel
theorem dX11_listColours_10 : decode cX11_listColours 10 = .ok (.invokevirtual 256, 3) := by decide +kernel
theorem dX11_listColours_13 : decode cX11_listColours 13 = .ok (.if_icmp .ge 50, 3) := by decide +kernel
theorem dX11_listColours_16 : decode cX11_listColours 16 = .ok (.aload_n 0, 1) := by decide +kernel
theorem dX11_listColours_17 : decode cX11_listColours 17 = .ok (.getfield 17, 3) := by decide +kernel
theorem dX11_listColours_20 : decode cX11_listColours 20 = .ok (.sipush 4096, 3) := by decide +kernel
theorem dX11_listColours_23 : decode cX11_listColours 23 = .ok (.iload_n 1, 1) := by decide +kernel
theorem dX11_listColours_24 : decode cX11_listColours 24 = .ok (.imul, 1) := by decide +kernel
theorem dX11_listColours_25 : decode cX11_listColours 25 = .ok (.iload_n 2, 1) := by decide +kernel
theorem dX11_listColours_26 : decode cX11_listColours 26 = .ok (.iadd, 1) := by decide +kernel
theorem dX11_listColours_27 : decode cX11_listColours 27 = .ok (.iaload, 1) := by decide +kernel
theorem dX11_listColours_28 : decode cX11_listColours 28 = .ok (.istore_n 3, 1) := by decide +kernel
theorem dX11_listColours_29 : decode cX11_listColours 29 = .ok (.aload_n 0, 1) := by decide +kernel
theorem dX11_listColours_30 : decode cX11_listColours 30 = .ok (.iload_n 3, 1) := by decide +kernel
theorem dX11_listColours_31 : decode cX11_listColours 31 = .ok (.invokevirtual 265, 3) := by decide +kernel
theorem dX11_listColours_34 : decode cX11_listColours 34 = .ok (.ifCond .ge 23, 3) := by decide +kernel
theorem dX11_listColours_37 : decode cX11_listColours 37 = .ok (.aload_n 0, 1) := by decide +kernel
theorem dX11_listColours_38 : decode cX11_listColours 38 = .ok (.getfield 58, 3) := by decide +kernel
theorem dX11_listColours_41 : decode cX11_listColours 41 = .ok (.aload_n 0, 1) := by decide +kernel
theorem dX11_listColours_42 : decode cX11_listColours 42 = .ok (.getfield 262, 3) := by decide +kernel
theorem dX11_listColours_45 : decode cX11_listColours 45 = .ok (.iload_n 3, 1) := by decide +kernel
theorem dX11_listColours_46 : decode cX11_listColours 46 = .ok (.iastore, 1) := by decide +kernel
theorem dX11_listColours_47 : decode cX11_listColours 47 = .ok (.aload_n 0, 1) := by decide +kernel
theorem dX11_listColours_48 : decode cX11_listColours 48 = .ok (.dup, 1) := by decide +kernel
theorem dX11_listColours_49 : decode cX11_listColours 49 = .ok (.getfield 262, 3) := by decide +kernel
theorem dX11_listColours_52 : decode cX11_listColours 52 = .ok (.iconst 1, 1) := by decide +kernel
theorem dX11_listColours_53 : decode cX11_listColours 53 = .ok (.iadd, 1) := by decide +kernel
theorem dX11_listColours_54 : decode cX11_listColours 54 = .ok (.putfield 262, 3) := by decide +kernel
theorem dX11_listColours_57 : decode cX11_listColours 57 = .ok (.iinc 2 1, 3) := by decide +kernel
theorem dX11_listColours_60 : decode cX11_listColours 60 = .ok (.goto (-53), 3) := by decide +kernel
theorem dX11_listColours_63 : decode cX11_listColours 63 = .ok (.return_, 1) := by decide +kernel
theorem dX11_canHold_0 : decode cX11_canHold 0 = .ok (.iload_n 2, 1) := by decide +kernel
theorem dX11_canHold_1 : decode cX11_canHold 1 = .ok (.tableswitch 165 0 17 #[87, 89, 95, 117, 89, 95, 117, 117, 123, 123, 87, 87, 95, 95, 148, 148, 117, 123], 87) := by decide +kernel
theorem dX11_canHold_88 : decode cX11_canHold 88 = .ok (.iconst 1, 1) := by decide +kernel
theorem dX11_canHold_89 : decode cX11_canHold 89 = .ok (.ireturn, 1) := by decide +kernel
theorem dX11_canHold_90 : decode cX11_canHold 90 = .ok (.aload_n 0, 1) := by decide +kernel
theorem dX11_canHold_91 : decode cX11_canHold 91 = .ok (.iload_n 1, 1) := by decide +kernel
theorem dX11_canHold_92 : decode cX11_canHold 92 = .ok (.invokevirtual 268, 3) := by decide +kernel
theorem dX11_canHold_95 : decode cX11_canHold 95 = .ok (.ireturn, 1) := by decide +kernel
theorem dX11_canHold_96 : decode cX11_canHold 96 = .ok (.aload_n 0, 1) := by decide +kernel
theorem dX11_canHold_97 : decode cX11_canHold 97 = .ok (.iload_n 1, 1) := by decide +kernel
theorem dX11_canHold_98 : decode cX11_canHold 98 = .ok (.invokevirtual 271, 3) := by decide +kernel
theorem dX11_canHold_101 : decode cX11_canHold 101 = .ok (.ifCond .eq 15, 3) := by decide +kernel
theorem dX11_canHold_104 : decode cX11_canHold 104 = .ok (.aload_n 0, 1) := by decide +kernel
theorem dX11_canHold_105 : decode cX11_canHold 105 = .ok (.iload_n 1, 1) := by decide +kernel
theorem dX11_canHold_106 : decode cX11_canHold 106 = .ok (.invokevirtual 274, 3) := by decide +kernel
theorem dX11_canHold_109 : decode cX11_canHold 109 = .ok (.ifCond .eq 7, 3) := by decide +kernel
theorem dX11_canHold_112 : decode cX11_canHold 112 = .ok (.iconst 1, 1) := by decide +kernel
theorem dX11_canHold_113 : decode cX11_canHold 113 = .ok (.goto 4, 3) := by decide +kernel
theorem dX11_canHold_116 : decode cX11_canHold 116 = .ok (.iconst 0, 1) := by decide +kernel
theorem dX11_canHold_117 : decode cX11_canHold 117 = .ok (.ireturn, 1) := by decide +kernel
theorem dX11_canHold_118 : decode cX11_canHold 118 = .ok (.aload_n 0, 1) := by decide +kernel
theorem dX11_canHold_119 : decode cX11_canHold 119 = .ok (.iload_n 1, 1) := by decide +kernel
theorem dX11_canHold_120 : decode cX11_canHold 120 = .ok (.invokevirtual 271, 3) := by decide +kernel
theorem dX11_canHold_123 : decode cX11_canHold 123 = .ok (.ireturn, 1) := by decide +kernel
theorem dX11_canHold_124 : decode cX11_canHold 124 = .ok (.aload_n 0, 1) := by decide +kernel
theorem dX11_canHold_125 : decode cX11_canHold 125 = .ok (.iload_n 1, 1) := by decide +kernel
theorem dX11_canHold_126 : decode cX11_canHold 126 = .ok (.invokevirtual 271, 3) := by decide +kernel
theorem dX11_canHold_129 : decode cX11_canHold 129 = .ok (.ifCond .eq 18, 3) := by decide +kernel
theorem dX11_canHold_132 : decode cX11_canHold 132 = .ok (.aload_n 0, 1) := by decide +kernel
theorem dX11_canHold_133 : decode cX11_canHold 133 = .ok (.iload_n 1, 1) := by decide +kernel
theorem dX11_canHold_134 : decode cX11_canHold 134 = .ok (.invokevirtual 277, 3) := by decide +kernel
theorem dX11_canHold_137 : decode cX11_canHold 137 = .ok (.sipush 256, 3) := by decide +kernel
theorem dX11_canHold_140 : decode cX11_canHold 140 = .ok (.if_icmp .gt 7, 3) := by decide +kernel
theorem dX11_canHold_143 : decode cX11_canHold 143 = .ok (.iconst 1, 1) := by decide +kernel
theorem dX11_canHold_144 : decode cX11_canHold 144 = .ok (.goto 4, 3) := by decide +kernel
theorem dX11_canHold_147 : decode cX11_canHold 147 = .ok (.iconst 0, 1) := by decide +kernel
theorem dX11_canHold_148 : decode cX11_canHold 148 = .ok (.ireturn, 1) := by decide +kernel
theorem dX11_canHold_149 : decode cX11_canHold 149 = .ok (.aload_n 0, 1) := by decide +kernel
theorem dX11_canHold_150 : decode cX11_canHold 150 = .ok (.iload_n 1, 1) := by decide +kernel
theorem dX11_canHold_151 : decode cX11_canHold 151 = .ok (.invokevirtual 277, 3) := by decide +kernel
theorem dX11_canHold_154 : decode cX11_canHold 154 = .ok (.sipush 256, 3) := by decide +kernel
theorem dX11_canHold_157 : decode cX11_canHold 157 = .ok (.if_icmp .gt 7, 3) := by decide +kernel
theorem dX11_canHold_160 : decode cX11_canHold 160 = .ok (.iconst 1, 1) := by decide +kernel
theorem dX11_canHold_161 : decode cX11_canHold 161 = .ok (.goto 4, 3) := by decide +kernel
theorem dX11_canHold_164 : decode cX11_canHold 164 = .ok (.iconst 0, 1) := by decide +kernel
theorem dX11_canHold_165 : decode cX11_canHold 165 = .ok (.ireturn, 1) := by decide +kernel
theorem dX11_canHold_166 : decode cX11_canHold 166 = .ok (.iconst 0, 1) := by decide +kernel
theorem dX11_canHold_167 : decode cX11_canHold 167 = .ok (.ireturn, 1) := by decide +kernel
theorem dX11_put__0 : decode cX11_put_ 0 = .ok (.aload_n 0, 1) := by decide +kernel
theorem dX11_put__1 : decode cX11_put_ 1 = .ok (.getfield 14, 3) := by decide +kernel
theorem dX11_put__4 : decode cX11_put_ 4 = .ok (.aload_n 0, 1) := by decide +kernel
theorem dX11_put__5 : decode cX11_put_ 5 = .ok (.getfield 75, 3) := by decide +kernel
theorem dX11_put__8 : decode cX11_put_ 8 = .ok (.iload_n 1, 1) := by decide +kernel
theorem dX11_put__9 : decode cX11_put_ 9 = .ok (.i2b, 1) := by decide +kernel
theorem dX11_put__10 : decode cX11_put_ 10 = .ok (.bastore, 1) := by decide +kernel
theorem dX11_put__11 : decode cX11_put_ 11 = .ok (.aload_n 0, 1) := by decide +kernel
theorem dX11_put__12 : decode cX11_put_ 12 = .ok (.dup, 1) := by decide +kernel
theorem dX11_put__13 : decode cX11_put_ 13 = .ok (.getfield 75, 3) := by decide +kernel
theorem dX11_put__16 : decode cX11_put_ 16 = .ok (.iconst 1, 1) := by decide +kernel
theorem dX11_put__17 : decode cX11_put_ 17 = .ok (.iadd, 1) := by decide +kernel
theorem dX11_put__18 : decode cX11_put_ 18 = .ok (.putfield 75, 3) := by decide +kernel
theorem dX11_put__21 : decode cX11_put_ 21 = .ok (.return_, 1) := by decide +kernel
theorem dX11_putLow_0 : decode cX11_putLow 0 = .ok (.iconst 0, 1) := by decide +kernel
theorem dX11_putLow_1 : decode cX11_putLow 1 = .ok (.istore_n 3, 1) := by decide +kernel
theorem dX11_putLow_2 : decode cX11_putLow 2 = .ok (.iload_n 3, 1) := by decide +kernel
theorem dX11_putLow_3 : decode cX11_putLow 3 = .ok (.iload_n 2, 1) := by decide +kernel
theorem dX11_putLow_4 : decode cX11_putLow 4 = .ok (.if_icmp .ge 19, 3) := by decide +kernel
theorem dX11_putLow_7 : decode cX11_putLow 7 = .ok (.aload_n 0, 1) := by decide +kernel
theorem dX11_putLow_8 : decode cX11_putLow 8 = .ok (.iload_n 1, 1) := by decide +kernel
theorem dX11_putLow_9 : decode cX11_putLow 9 = .ok (.bipush 8, 2) := by decide +kernel
theorem dX11_putLow_11 : decode cX11_putLow 11 = .ok (.iload_n 3, 1) := by decide +kernel
theorem dX11_putLow_12 : decode cX11_putLow 12 = .ok (.imul, 1) := by decide +kernel
theorem dX11_putLow_13 : decode cX11_putLow 13 = .ok (.ishr, 1) := by decide +kernel
theorem dX11_putLow_14 : decode cX11_putLow 14 = .ok (.invokevirtual 280, 3) := by decide +kernel
theorem dX11_putLow_17 : decode cX11_putLow 17 = .ok (.iinc 3 1, 3) := by decide +kernel
theorem dX11_putLow_20 : decode cX11_putLow 20 = .ok (.goto (-18), 3) := by decide +kernel
theorem dX11_putLow_23 : decode cX11_putLow 23 = .ok (.return_, 1) := by decide +kernel
theorem dX11_putTop_0 : decode cX11_putTop 0 = .ok (.bipush 24, 2) := by decide +kernel
theorem dX11_putTop_2 : decode cX11_putTop 2 = .ok (.istore_n 2, 1) := by decide +kernel
theorem dX11_putTop_3 : decode cX11_putTop 3 = .ok (.iload_n 2, 1) := by decide +kernel
theorem dX11_putTop_4 : decode cX11_putTop 4 = .ok (.ifCond .lt 16, 3) := by decide +kernel
theorem dX11_putTop_7 : decode cX11_putTop 7 = .ok (.aload_n 0, 1) := by decide +kernel
theorem dX11_putTop_8 : decode cX11_putTop 8 = .ok (.iload_n 1, 1) := by decide +kernel
theorem dX11_putTop_9 : decode cX11_putTop 9 = .ok (.iload_n 2, 1) := by decide +kernel
theorem dX11_putTop_10 : decode cX11_putTop 10 = .ok (.ishr, 1) := by decide +kernel
theorem dX11_putTop_11 : decode cX11_putTop 11 = .ok (.invokevirtual 280, 3) := by decide +kernel
theorem dX11_putTop_14 : decode cX11_putTop 14 = .ok (.iinc 2 (-8), 3) := by decide +kernel
theorem dX11_putTop_17 : decode cX11_putTop 17 = .ok (.goto (-14), 3) := by decide +kernel
theorem dX11_putTop_20 : decode cX11_putTop 20 = .ok (.return_, 1) := by decide +kernel
theorem dX11_putNumber_0 : decode cX11_putNumber 0 = .ok (.iload_n 1, 1) := by decide +kernel
theorem dX11_putNumber_1 : decode cX11_putNumber 1 = .ok (.bipush 9, 2) := by decide +kernel
theorem dX11_putNumber_3 : decode cX11_putNumber 3 = .ok (.if_icmp .le 11, 3) := by decide +kernel
theorem dX11_putNumber_6 : decode cX11_putNumber 6 = .ok (.aload_n 0, 1) := by decide +kernel
theorem dX11_putNumber_7 : decode cX11_putNumber 7 = .ok (.iload_n 1, 1) := by decide +kernel
theorem dX11_putNumber_8 : decode cX11_putNumber 8 = .ok (.bipush 10, 2) := by decide +kernel
theorem dX11_putNumber_10 : decode cX11_putNumber 10 = .ok (.idiv, 1) := by decide +kernel
theorem dX11_putNumber_11 : decode cX11_putNumber 11 = .ok (.invokevirtual 282, 3) := by decide +kernel
theorem dX11_putNumber_14 : decode cX11_putNumber 14 = .ok (.aload_n 0, 1) := by decide +kernel
theorem dX11_putNumber_15 : decode cX11_putNumber 15 = .ok (.bipush 48, 2) := by decide +kernel
theorem dX11_putNumber_17 : decode cX11_putNumber 17 = .ok (.iload_n 1, 1) := by decide +kernel
theorem dX11_putNumber_18 : decode cX11_putNumber 18 = .ok (.bipush 10, 2) := by decide +kernel
theorem dX11_putNumber_20 : decode cX11_putNumber 20 = .ok (.irem, 1) := by decide +kernel
theorem dX11_putNumber_21 : decode cX11_putNumber 21 = .ok (.iadd, 1) := by decide +kernel
theorem dX11_putNumber_22 : decode cX11_putNumber 22 = .ok (.invokevirtual 280, 3) := by decide +kernel
theorem dX11_putNumber_25 : decode cX11_putNumber 25 = .ok (.return_, 1) := by decide +kernel
theorem dX11_at_0 : decode cX11_at 0 = .ok (.aload_n 0, 1) := by decide +kernel
theorem dX11_at_1 : decode cX11_at 1 = .ok (.getfield 17, 3) := by decide +kernel
theorem dX11_at_4 : decode cX11_at 4 = .ok (.sipush 4096, 3) := by decide +kernel
theorem dX11_at_7 : decode cX11_at 7 = .ok (.iload_n 1, 1) := by decide +kernel
theorem dX11_at_8 : decode cX11_at 8 = .ok (.imul, 1) := by decide +kernel
theorem dX11_at_9 : decode cX11_at 9 = .ok (.aload_n 0, 1) := by decide +kernel
theorem dX11_at_10 : decode cX11_at 10 = .ok (.getfield 21, 3) := by decide +kernel
theorem dX11_at_13 : decode cX11_at 13 = .ok (.iload_n 1, 1) := by decide +kernel
theorem dX11_at_14 : decode cX11_at 14 = .ok (.iaload, 1) := by decide +kernel
theorem dX11_at_15 : decode cX11_at 15 = .ok (.iload_n 3, 1) := by decide +kernel
theorem dX11_at_16 : decode cX11_at 16 = .ok (.imul, 1) := by decide +kernel
theorem dX11_at_17 : decode cX11_at 17 = .ok (.iadd, 1) := by decide +kernel
theorem dX11_at_18 : decode cX11_at 18 = .ok (.iload_n 2, 1) := by decide +kernel
theorem dX11_at_19 : decode cX11_at 19 = .ok (.iadd, 1) := by decide +kernel
theorem dX11_at_20 : decode cX11_at 20 = .ok (.iaload, 1) := by decide +kernel
theorem dX11_at_21 : decode cX11_at 21 = .ok (.ireturn, 1) := by decide +kernel
theorem dX11_writeChunks_0 : decode cX11_writeChunks 0 = .ok (.aload_n 0, 1) := by decide +kernel
theorem dX11_writeChunks_1 : decode cX11_writeChunks 1 = .ok (.bipush 113, 2) := by decide +kernel
theorem dX11_writeChunks_3 : decode cX11_writeChunks 3 = .ok (.invokevirtual 280, 3) := by decide +kernel
theorem dX11_writeChunks_6 : decode cX11_writeChunks 6 = .ok (.aload_n 0, 1) := by decide +kernel
theorem dX11_writeChunks_7 : decode cX11_writeChunks 7 = .ok (.bipush 111, 2) := by decide +kernel
theorem dX11_writeChunks_9 : decode cX11_writeChunks 9 = .ok (.invokevirtual 280, 3) := by decide +kernel
theorem dX11_writeChunks_12 : decode cX11_writeChunks 12 = .ok (.aload_n 0, 1) := by decide +kernel
theorem dX11_writeChunks_13 : decode cX11_writeChunks 13 = .ok (.bipush 105, 2) := by decide +kernel
theorem dX11_writeChunks_15 : decode cX11_writeChunks 15 = .ok (.invokevirtual 280, 3) := by decide +kernel
theorem dX11_writeChunks_18 : decode cX11_writeChunks 18 = .ok (.aload_n 0, 1) := by decide +kernel
theorem dX11_writeChunks_19 : decode cX11_writeChunks 19 = .ok (.bipush 102, 2) := by decide +kernel
theorem dX11_writeChunks_21 : decode cX11_writeChunks 21 = .ok (.invokevirtual 280, 3) := by decide +kernel
theorem dX11_writeChunks_24 : decode cX11_writeChunks 24 = .ok (.aload_n 0, 1) := by decide +kernel
theorem dX11_writeChunks_25 : decode cX11_writeChunks 25 = .ok (.aload_n 0, 1) := by decide +kernel
theorem dX11_writeChunks_26 : decode cX11_writeChunks 26 = .ok (.getfield 21, 3) := by decide +kernel
theorem dX11_writeChunks_29 : decode cX11_writeChunks 29 = .ok (.iload_n 1, 1) := by decide +kernel
theorem dX11_writeChunks_30 : decode cX11_writeChunks 30 = .ok (.iaload, 1) := by decide +kernel
theorem dX11_writeChunks_31 : decode cX11_writeChunks 31 = .ok (.invokevirtual 285, 3) := by decide +kernel
theorem dX11_writeChunks_34 : decode cX11_writeChunks 34 = .ok (.aload_n 0, 1) := by decide +kernel
theorem dX11_writeChunks_35 : decode cX11_writeChunks 35 = .ok (.aload_n 0, 1) := by decide +kernel
theorem dX11_writeChunks_36 : decode cX11_writeChunks 36 = .ok (.getfield 24, 3) := by decide +kernel
theorem dX11_writeChunks_39 : decode cX11_writeChunks 39 = .ok (.iload_n 1, 1) := by decide +kernel
theorem dX11_writeChunks_40 : decode cX11_writeChunks 40 = .ok (.iaload, 1) := by decide +kernel
theorem dX11_writeChunks_41 : decode cX11_writeChunks 41 = .ok (.invokevirtual 285, 3) := by decide +kernel
theorem dX11_writeChunks_44 : decode cX11_writeChunks 44 = .ok (.aload_n 0, 1) := by decide +kernel
theorem dX11_writeChunks_45 : decode cX11_writeChunks 45 = .ok (.aload_n 0, 1) := by decide +kernel
theorem dX11_writeChunks_46 : decode cX11_writeChunks 46 = .ok (.iload_n 1, 1) := by decide +kernel
theorem dX11_writeChunks_47 : decode cX11_writeChunks 47 = .ok (.invokevirtual 271, 3) := by decide +kernel
theorem dX11_writeChunks_50 : decode cX11_writeChunks 50 = .ok (.ifCond .eq 7, 3) := by decide +kernel
theorem dX11_writeChunks_53 : decode cX11_writeChunks 53 = .ok (.iconst 3, 1) := by decide +kernel
theorem dX11_writeChunks_54 : decode cX11_writeChunks 54 = .ok (.goto 4, 3) := by decide +kernel
theorem dX11_writeChunks_57 : decode cX11_writeChunks 57 = .ok (.iconst 4, 1) := by decide +kernel
theorem dX11_writeChunks_58 : decode cX11_writeChunks 58 = .ok (.invokevirtual 280, 3) := by decide +kernel
theorem dX11_writeChunks_61 : decode cX11_writeChunks 61 = .ok (.aload_n 0, 1) := by decide +kernel
theorem dX11_writeChunks_62 : decode cX11_writeChunks 62 = .ok (.iconst 0, 1) := by decide +kernel
theorem dX11_writeChunks_63 : decode cX11_writeChunks 63 = .ok (.invokevirtual 280, 3) := by decide +kernel
theorem dX11_writeChunks_66 : decode cX11_writeChunks 66 = .ok (.iconst 0, 1) := by decide +kernel
theorem dX11_writeChunks_67 : decode cX11_writeChunks 67 = .ok (.istore_n 2, 1) := by decide +kernel
theorem dX11_writeChunks_68 : decode cX11_writeChunks 68 = .ok (.iload_n 2, 1) := by decide +kernel
theorem dX11_writeChunks_69 : decode cX11_writeChunks 69 = .ok (.bipush 64, 2) := by decide +kernel
theorem dX11_writeChunks_71 : decode cX11_writeChunks 71 = .ok (.if_icmp .ge 16, 3) := by decide +kernel
theorem dX11_writeChunks_74 : decode cX11_writeChunks 74 = .ok (.aload_n 0, 1) := by decide +kernel
theorem dX11_writeChunks_75 : decode cX11_writeChunks 75 = .ok (.getfield 46, 3) := by decide +kernel
theorem dX11_writeChunks_78 : decode cX11_writeChunks 78 = .ok (.iload_n 2, 1) := by decide +kernel
theorem dX11_writeChunks_79 : decode cX11_writeChunks 79 = .ok (.iconst 0, 1) := by decide +kernel
theorem dX11_writeChunks_80 : decode cX11_writeChunks 80 = .ok (.iastore, 1) := by decide +kernel
theorem dX11_writeChunks_81 : decode cX11_writeChunks 81 = .ok (.iinc 2 1, 3) := by decide +kernel
theorem dX11_writeChunks_84 : decode cX11_writeChunks 84 = .ok (.goto (-16), 3) := by decide +kernel
theorem dX11_writeChunks_87 : decode cX11_writeChunks 87 = .ok (.sipush 255, 3) := by decide +kernel
theorem dX11_writeChunks_90 : decode cX11_writeChunks 90 = .ok (.istore_n 2, 1) := by decide +kernel
theorem dX11_writeChunks_91 : decode cX11_writeChunks 91 = .ok (.aload_n 0, 1) := by decide +kernel
theorem dX11_writeChunks_92 : decode cX11_writeChunks 92 = .ok (.iload_n 1, 1) := by decide +kernel
theorem dX11_writeChunks_93 : decode cX11_writeChunks 93 = .ok (.invokevirtual 256, 3) := by decide +kernel
theorem dX11_writeChunks_96 : decode cX11_writeChunks 96 = .ok (.istore_n 3, 1) := by decide +kernel
theorem dX11_writeChunks_97 : decode cX11_writeChunks 97 = .ok (.iconst 0, 1) := by decide +kernel
theorem dX11_writeChunks_98 : decode cX11_writeChunks 98 = .ok (.istore 4, 2) := by decide +kernel
theorem dX11_writeChunks_100 : decode cX11_writeChunks 100 = .ok (.iload 4, 2) := by decide +kernel
theorem dX11_writeChunks_102 : decode cX11_writeChunks 102 = .ok (.iload_n 3, 1) := by decide +kernel
theorem dX11_writeChunks_103 : decode cX11_writeChunks 103 = .ok (.if_icmp .ge 143, 3) := by decide +kernel
theorem dX11_writeChunks_106 : decode cX11_writeChunks 106 = .ok (.aload_n 0, 1) := by decide +kernel
theorem dX11_writeChunks_107 : decode cX11_writeChunks 107 = .ok (.getfield 17, 3) := by decide +kernel
theorem dX11_writeChunks_110 : decode cX11_writeChunks 110 = .ok (.sipush 4096, 3) := by decide +kernel
theorem dX11_writeChunks_113 : decode cX11_writeChunks 113 = .ok (.iload_n 1, 1) := by decide +kernel
theorem dX11_writeChunks_114 : decode cX11_writeChunks 114 = .ok (.imul, 1) := by decide +kernel
theorem dX11_writeChunks_115 : decode cX11_writeChunks 115 = .ok (.iload 4, 2) := by decide +kernel
theorem dX11_writeChunks_117 : decode cX11_writeChunks 117 = .ok (.iadd, 1) := by decide +kernel
theorem dX11_writeChunks_118 : decode cX11_writeChunks 118 = .ok (.iaload, 1) := by decide +kernel
theorem dX11_writeChunks_119 : decode cX11_writeChunks 119 = .ok (.istore 5, 2) := by decide +kernel
theorem dX11_writeChunks_121 : decode cX11_writeChunks 121 = .ok (.iconst 0, 1) := by decide +kernel
theorem dX11_writeChunks_122 : decode cX11_writeChunks 122 = .ok (.istore 6, 2) := by decide +kernel
theorem dX11_writeChunks_124 : decode cX11_writeChunks 124 = .ok (.iload 6, 2) := by decide +kernel
theorem dX11_writeChunks_126 : decode cX11_writeChunks 126 = .ok (.bipush 62, 2) := by decide +kernel
theorem dX11_writeChunks_128 : decode cX11_writeChunks 128 = .ok (.if_icmp .ge 38, 3) := by decide +kernel
theorem dX11_writeChunks_131 : decode cX11_writeChunks 131 = .ok (.iload 4, 2) := by decide +kernel
theorem dX11_writeChunks_133 : decode cX11_writeChunks 133 = .ok (.iload 6, 2) := by decide +kernel
theorem dX11_writeChunks_135 : decode cX11_writeChunks 135 = .ok (.iadd, 1) := by decide +kernel
theorem dX11_writeChunks_136 : decode cX11_writeChunks 136 = .ok (.iload_n 3, 1) := by decide +kernel
theorem dX11_writeChunks_137 : decode cX11_writeChunks 137 = .ok (.if_icmp .ge 29, 3) := by decide +kernel
theorem dX11_writeChunks_140 : decode cX11_writeChunks 140 = .ok (.aload_n 0, 1) := by decide +kernel
theorem dX11_writeChunks_141 : decode cX11_writeChunks 141 = .ok (.getfield 17, 3) := by decide +kernel
theorem dX11_writeChunks_144 : decode cX11_writeChunks 144 = .ok (.sipush 4096, 3) := by decide +kernel
theorem dX11_writeChunks_147 : decode cX11_writeChunks 147 = .ok (.iload_n 1, 1) := by decide +kernel
theorem dX11_writeChunks_148 : decode cX11_writeChunks 148 = .ok (.imul, 1) := by decide +kernel
theorem dX11_writeChunks_149 : decode cX11_writeChunks 149 = .ok (.iload 4, 2) := by decide +kernel
theorem dX11_writeChunks_151 : decode cX11_writeChunks 151 = .ok (.iadd, 1) := by decide +kernel
theorem dX11_writeChunks_152 : decode cX11_writeChunks 152 = .ok (.iload 6, 2) := by decide +kernel
theorem dX11_writeChunks_154 : decode cX11_writeChunks 154 = .ok (.iadd, 1) := by decide +kernel
theorem dX11_writeChunks_155 : decode cX11_writeChunks 155 = .ok (.iaload, 1) := by decide +kernel
theorem dX11_writeChunks_156 : decode cX11_writeChunks 156 = .ok (.iload_n 2, 1) := by decide +kernel
theorem dX11_writeChunks_157 : decode cX11_writeChunks 157 = .ok (.if_icmp .ne 9, 3) := by decide +kernel
theorem dX11_writeChunks_160 : decode cX11_writeChunks 160 = .ok (.iinc 6 1, 3) := by decide +kernel
theorem dX11_writeChunks_163 : decode cX11_writeChunks 163 = .ok (.goto (-39), 3) := by decide +kernel
theorem dX11_writeChunks_166 : decode cX11_writeChunks 166 = .ok (.iload 6, 2) := by decide +kernel
theorem dX11_writeChunks_168 : decode cX11_writeChunks 168 = .ok (.ifCond .le 23, 3) := by decide +kernel
theorem dX11_writeChunks_171 : decode cX11_writeChunks 171 = .ok (.aload_n 0, 1) := by decide +kernel
theorem dX11_writeChunks_172 : decode cX11_writeChunks 172 = .ok (.sipush 191, 3) := by decide +kernel
theorem dX11_writeChunks_175 : decode cX11_writeChunks 175 = .ok (.iload 6, 2) := by decide +kernel
theorem dX11_writeChunks_177 : decode cX11_writeChunks 177 = .ok (.iadd, 1) := by decide +kernel
theorem dX11_writeChunks_178 : decode cX11_writeChunks 178 = .ok (.invokevirtual 280, 3) := by decide +kernel
theorem dX11_writeChunks_181 : decode cX11_writeChunks 181 = .ok (.iload 4, 2) := by decide +kernel
theorem dX11_writeChunks_183 : decode cX11_writeChunks 183 = .ok (.iload 6, 2) := by decide +kernel
theorem dX11_writeChunks_185 : decode cX11_writeChunks 185 = .ok (.iadd, 1) := by decide +kernel
theorem dX11_writeChunks_186 : decode cX11_writeChunks 186 = .ok (.istore 4, 2) := by decide +kernel
theorem dX11_writeChunks_188 : decode cX11_writeChunks 188 = .ok (.goto 40, 3) := by decide +kernel
theorem dX11_writeChunks_191 : decode cX11_writeChunks 191 = .ok (.aload_n 0, 1) := by decide +kernel
theorem dX11_writeChunks_192 : decode cX11_writeChunks 192 = .ok (.getfield 46, 3) := by decide +kernel
theorem dX11_writeChunks_195 : decode cX11_writeChunks 195 = .ok (.iload 5, 2) := by decide +kernel
theorem dX11_writeChunks_197 : decode cX11_writeChunks 197 = .ok (.invokestatic 142, 3) := by decide +kernel
theorem dX11_writeChunks_200 : decode cX11_writeChunks 200 = .ok (.iaload, 1) := by decide +kernel
theorem dX11_writeChunks_201 : decode cX11_writeChunks 201 = .ok (.iload 5, 2) := by decide +kernel
theorem dX11_writeChunks_203 : decode cX11_writeChunks 203 = .ok (.if_icmp .ne 15, 3) := by decide +kernel
theorem dX11_writeChunks_206 : decode cX11_writeChunks 206 = .ok (.aload_n 0, 1) := by decide +kernel
theorem dX11_writeChunks_207 : decode cX11_writeChunks 207 = .ok (.iload 5, 2) := by decide +kernel
theorem dX11_writeChunks_209 : decode cX11_writeChunks 209 = .ok (.invokestatic 142, 3) := by decide +kernel
theorem dX11_writeChunks_212 : decode cX11_writeChunks 212 = .ok (.invokevirtual 280, 3) := by decide +kernel
theorem dX11_writeChunks_215 : decode cX11_writeChunks 215 = .ok (.goto 10, 3) := by decide +kernel
theorem dX11_writeChunks_218 : decode cX11_writeChunks 218 = .ok (.aload_n 0, 1) := by decide +kernel
theorem dX11_writeChunks_219 : decode cX11_writeChunks 219 = .ok (.iload_n 2, 1) := by decide +kernel
theorem dX11_writeChunks_220 : decode cX11_writeChunks 220 = .ok (.iload 5, 2) := by decide +kernel
theorem dX11_writeChunks_222 : decode cX11_writeChunks 222 = .ok (.invokevirtual 288, 3) := by decide +kernel
theorem dX11_writeChunks_225 : decode cX11_writeChunks 225 = .ok (.iinc 4 1, 3) := by decide +kernel
theorem dX11_writeChunks_228 : decode cX11_writeChunks 228 = .ok (.iload 5, 2) := by decide +kernel
theorem dX11_writeChunks_230 : decode cX11_writeChunks 230 = .ok (.istore_n 2, 1) := by decide +kernel
theorem dX11_writeChunks_231 : decode cX11_writeChunks 231 = .ok (.aload_n 0, 1) := by decide +kernel
theorem dX11_writeChunks_232 : decode cX11_writeChunks 232 = .ok (.getfield 46, 3) := by decide +kernel
theorem dX11_writeChunks_235 : decode cX11_writeChunks 235 = .ok (.iload 5, 2) := by decide +kernel
theorem dX11_writeChunks_237 : decode cX11_writeChunks 237 = .ok (.invokestatic 142, 3) := by decide +kernel
theorem dX11_writeChunks_240 : decode cX11_writeChunks 240 = .ok (.iload 5, 2) := by decide +kernel
theorem dX11_writeChunks_242 : decode cX11_writeChunks 242 = .ok (.iastore, 1) := by decide +kernel
theorem dX11_writeChunks_243 : decode cX11_writeChunks 243 = .ok (.goto (-143), 3) := by decide +kernel
theorem dX11_writeChunks_246 : decode cX11_writeChunks 246 = .ok (.iconst 0, 1) := by decide +kernel
theorem dX11_writeChunks_247 : decode cX11_writeChunks 247 = .ok (.istore 5, 2) := by decide +kernel
theorem dX11_writeChunks_249 : decode cX11_writeChunks 249 = .ok (.iload 5, 2) := by decide +kernel
theorem dX11_writeChunks_251 : decode cX11_writeChunks 251 = .ok (.bipush 7, 2) := by decide +kernel
theorem dX11_writeChunks_253 : decode cX11_writeChunks 253 = .ok (.if_icmp .ge 14, 3) := by decide +kernel
theorem dX11_writeChunks_256 : decode cX11_writeChunks 256 = .ok (.aload_n 0, 1) := by decide +kernel
theorem dX11_writeChunks_257 : decode cX11_writeChunks 257 = .ok (.iconst 0, 1) := by decide +kernel
theorem dX11_writeChunks_258 : decode cX11_writeChunks 258 = .ok (.invokevirtual 280, 3) := by decide +kernel
theorem dX11_writeChunks_261 : decode cX11_writeChunks 261 = .ok (.iinc 5 1, 3) := by decide +kernel
theorem dX11_writeChunks_264 : decode cX11_writeChunks 264 = .ok (.goto (-15), 3) := by decide +kernel
theorem dX11_writeChunks_267 : decode cX11_writeChunks 267 = .ok (.aload_n 0, 1) := by decide +kernel
theorem dX11_writeChunks_268 : decode cX11_writeChunks 268 = .ok (.iconst 1, 1) := by decide +kernel
theorem dX11_writeChunks_269 : decode cX11_writeChunks 269 = .ok (.invokevirtual 280, 3) := by decide +kernel
theorem dX11_writeChunks_272 : decode cX11_writeChunks 272 = .ok (.return_, 1) := by decide +kernel
theorem dX11_chunk_0 : decode cX11_chunk 0 = .ok (.iload_n 2, 1) := by decide +kernel
theorem dX11_chunk_1 : decode cX11_chunk 1 = .ok (.bipush 24, 2) := by decide +kernel
theorem dX11_chunk_3 : decode cX11_chunk 3 = .ok (.iushr, 1) := by decide +kernel
theorem dX11_chunk_4 : decode cX11_chunk 4 = .ok (.iload_n 1, 1) := by decide +kernel
theorem dX11_chunk_5 : decode cX11_chunk 5 = .ok (.bipush 24, 2) := by decide +kernel
theorem dX11_chunk_7 : decode cX11_chunk 7 = .ok (.iushr, 1) := by decide +kernel
theorem dX11_chunk_8 : decode cX11_chunk 8 = .ok (.isub, 1) := by decide +kernel
theorem dX11_chunk_9 : decode cX11_chunk 9 = .ok (.i2b, 1) := by decide +kernel
theorem dX11_chunk_10 : decode cX11_chunk 10 = .ok (.istore_n 3, 1) := by decide +kernel
theorem dX11_chunk_11 : decode cX11_chunk 11 = .ok (.iload_n 2, 1) := by decide +kernel
theorem dX11_chunk_12 : decode cX11_chunk 12 = .ok (.bipush 16, 2) := by decide +kernel
theorem dX11_chunk_14 : decode cX11_chunk 14 = .ok (.ishr, 1) := by decide +kernel
theorem dX11_chunk_15 : decode cX11_chunk 15 = .ok (.iload_n 1, 1) := by decide +kernel
theorem dX11_chunk_16 : decode cX11_chunk 16 = .ok (.bipush 16, 2) := by decide +kernel
theorem dX11_chunk_18 : decode cX11_chunk 18 = .ok (.ishr, 1) := by decide +kernel
theorem dX11_chunk_19 : decode cX11_chunk 19 = .ok (.isub, 1) := by decide +kernel
theorem dX11_chunk_20 : decode cX11_chunk 20 = .ok (.i2b, 1) := by decide +kernel
theorem dX11_chunk_21 : decode cX11_chunk 21 = .ok (.istore 4, 2) := by decide +kernel
theorem dX11_chunk_23 : decode cX11_chunk 23 = .ok (.iload_n 2, 1) := by decide +kernel
theorem dX11_chunk_24 : decode cX11_chunk 24 = .ok (.bipush 8, 2) := by decide +kernel
theorem dX11_chunk_26 : decode cX11_chunk 26 = .ok (.ishr, 1) := by decide +kernel
theorem dX11_chunk_27 : decode cX11_chunk 27 = .ok (.iload_n 1, 1) := by decide +kernel
theorem dX11_chunk_28 : decode cX11_chunk 28 = .ok (.bipush 8, 2) := by decide +kernel
theorem dX11_chunk_30 : decode cX11_chunk 30 = .ok (.ishr, 1) := by decide +kernel
theorem dX11_chunk_31 : decode cX11_chunk 31 = .ok (.isub, 1) := by decide +kernel
theorem dX11_chunk_32 : decode cX11_chunk 32 = .ok (.i2b, 1) := by decide +kernel
theorem dX11_chunk_33 : decode cX11_chunk 33 = .ok (.istore 5, 2) := by decide +kernel
theorem dX11_chunk_35 : decode cX11_chunk 35 = .ok (.iload_n 3, 1) := by decide +kernel
theorem dX11_chunk_36 : decode cX11_chunk 36 = .ok (.iload 4, 2) := by decide +kernel
theorem dX11_chunk_38 : decode cX11_chunk 38 = .ok (.isub, 1) := by decide +kernel
theorem dX11_chunk_39 : decode cX11_chunk 39 = .ok (.i2b, 1) := by decide +kernel
theorem dX11_chunk_40 : decode cX11_chunk 40 = .ok (.istore 6, 2) := by decide +kernel
theorem dX11_chunk_42 : decode cX11_chunk 42 = .ok (.iload 5, 2) := by decide +kernel
theorem dX11_chunk_44 : decode cX11_chunk 44 = .ok (.iload 4, 2) := by decide +kernel
theorem dX11_chunk_46 : decode cX11_chunk 46 = .ok (.isub, 1) := by decide +kernel
theorem dX11_chunk_47 : decode cX11_chunk 47 = .ok (.i2b, 1) := by decide +kernel
theorem dX11_chunk_48 : decode cX11_chunk 48 = .ok (.istore 7, 2) := by decide +kernel
theorem dX11_chunk_50 : decode cX11_chunk 50 = .ok (.iload_n 1, 1) := by decide +kernel
theorem dX11_chunk_51 : decode cX11_chunk 51 = .ok (.sipush 255, 3) := by decide +kernel
theorem dX11_chunk_54 : decode cX11_chunk 54 = .ok (.iand, 1) := by decide +kernel
theorem dX11_chunk_55 : decode cX11_chunk 55 = .ok (.iload_n 2, 1) := by decide +kernel
theorem dX11_chunk_56 : decode cX11_chunk 56 = .ok (.sipush 255, 3) := by decide +kernel
theorem dX11_chunk_59 : decode cX11_chunk 59 = .ok (.iand, 1) := by decide +kernel
theorem dX11_chunk_60 : decode cX11_chunk 60 = .ok (.if_icmp .ne 7, 3) := by decide +kernel
theorem dX11_chunk_63 : decode cX11_chunk 63 = .ok (.iconst 1, 1) := by decide +kernel
theorem dX11_chunk_64 : decode cX11_chunk 64 = .ok (.goto 4, 3) := by decide +kernel
theorem dX11_chunk_67 : decode cX11_chunk 67 = .ok (.iconst 0, 1) := by decide +kernel
theorem dX11_chunk_68 : decode cX11_chunk 68 = .ok (.istore 8, 2) := by decide +kernel
theorem dX11_chunk_70 : decode cX11_chunk 70 = .ok (.iload 8, 2) := by decide +kernel
theorem dX11_chunk_72 : decode cX11_chunk 72 = .ok (.ifCond .eq 68, 3) := by decide +kernel
theorem dX11_chunk_75 : decode cX11_chunk 75 = .ok (.iload_n 3, 1) := by decide +kernel
theorem dX11_chunk_76 : decode cX11_chunk 76 = .ok (.bipush (-2), 2) := by decide +kernel
theorem dX11_chunk_78 : decode cX11_chunk 78 = .ok (.if_icmp .lt 62, 3) := by decide +kernel
theorem dX11_chunk_81 : decode cX11_chunk 81 = .ok (.iload_n 3, 1) := by decide +kernel
theorem dX11_chunk_82 : decode cX11_chunk 82 = .ok (.iconst 2, 1) := by decide +kernel
theorem dX11_chunk_83 : decode cX11_chunk 83 = .ok (.if_icmp .ge 57, 3) := by decide +kernel
theorem dX11_chunk_86 : decode cX11_chunk 86 = .ok (.iload 4, 2) := by decide +kernel
theorem dX11_chunk_88 : decode cX11_chunk 88 = .ok (.bipush (-2), 2) := by decide +kernel
theorem dX11_chunk_90 : decode cX11_chunk 90 = .ok (.if_icmp .lt 50, 3) := by decide +kernel
theorem dX11_chunk_93 : decode cX11_chunk 93 = .ok (.iload 4, 2) := by decide +kernel
theorem dX11_chunk_95 : decode cX11_chunk 95 = .ok (.iconst 2, 1) := by decide +kernel
theorem dX11_chunk_96 : decode cX11_chunk 96 = .ok (.if_icmp .ge 44, 3) := by decide +kernel
theorem dX11_chunk_99 : decode cX11_chunk 99 = .ok (.iload 5, 2) := by decide +kernel
theorem dX11_chunk_101 : decode cX11_chunk 101 = .ok (.bipush (-2), 2) := by decide +kernel
theorem dX11_chunk_103 : decode cX11_chunk 103 = .ok (.if_icmp .lt 37, 3) := by decide +kernel
theorem dX11_chunk_106 : decode cX11_chunk 106 = .ok (.iload 5, 2) := by decide +kernel
theorem dX11_chunk_108 : decode cX11_chunk 108 = .ok (.iconst 2, 1) := by decide +kernel
theorem dX11_chunk_109 : decode cX11_chunk 109 = .ok (.if_icmp .ge 31, 3) := by decide +kernel
theorem dX11_chunk_112 : decode cX11_chunk 112 = .ok (.aload_n 0, 1) := by decide +kernel
theorem dX11_chunk_113 : decode cX11_chunk 113 = .ok (.bipush 64, 2) := by decide +kernel
theorem dX11_chunk_115 : decode cX11_chunk 115 = .ok (.bipush 16, 2) := by decide +kernel
theorem dX11_chunk_117 : decode cX11_chunk 117 = .ok (.iload_n 3, 1) := by decide +kernel
theorem dX11_chunk_118 : decode cX11_chunk 118 = .ok (.iconst 2, 1) := by decide +kernel
theorem dX11_chunk_119 : decode cX11_chunk 119 = .ok (.iadd, 1) := by decide +kernel
theorem dX11_chunk_120 : decode cX11_chunk 120 = .ok (.imul, 1) := by decide +kernel
theorem dX11_chunk_121 : decode cX11_chunk 121 = .ok (.iadd, 1) := by decide +kernel
theorem dX11_chunk_122 : decode cX11_chunk 122 = .ok (.iconst 4, 1) := by decide +kernel
theorem dX11_chunk_123 : decode cX11_chunk 123 = .ok (.iload 4, 2) := by decide +kernel
theorem dX11_chunk_125 : decode cX11_chunk 125 = .ok (.iconst 2, 1) := by decide +kernel
theorem dX11_chunk_126 : decode cX11_chunk 126 = .ok (.iadd, 1) := by decide +kernel
theorem dX11_chunk_127 : decode cX11_chunk 127 = .ok (.imul, 1) := by decide +kernel
theorem dX11_chunk_128 : decode cX11_chunk 128 = .ok (.iadd, 1) := by decide +kernel
theorem dX11_chunk_129 : decode cX11_chunk 129 = .ok (.iload 5, 2) := by decide +kernel
theorem dX11_chunk_131 : decode cX11_chunk 131 = .ok (.iadd, 1) := by decide +kernel
theorem dX11_chunk_132 : decode cX11_chunk 132 = .ok (.iconst 2, 1) := by decide +kernel
theorem dX11_chunk_133 : decode cX11_chunk 133 = .ok (.iadd, 1) := by decide +kernel
theorem dX11_chunk_134 : decode cX11_chunk 134 = .ok (.invokevirtual 280, 3) := by decide +kernel
theorem dX11_chunk_137 : decode cX11_chunk 137 = .ok (.goto 133, 3) := by decide +kernel
theorem dX11_chunk_140 : decode cX11_chunk 140 = .ok (.iload 8, 2) := by decide +kernel
theorem dX11_chunk_142 : decode cX11_chunk 142 = .ok (.ifCond .eq 76, 3) := by decide +kernel
theorem dX11_chunk_145 : decode cX11_chunk 145 = .ok (.iload 4, 2) := by decide +kernel
theorem dX11_chunk_147 : decode cX11_chunk 147 = .ok (.bipush (-32), 2) := by decide +kernel
theorem dX11_chunk_149 : decode cX11_chunk 149 = .ok (.if_icmp .lt 69, 3) := by decide +kernel
theorem dX11_chunk_152 : decode cX11_chunk 152 = .ok (.iload 4, 2) := by decide +kernel
theorem dX11_chunk_154 : decode cX11_chunk 154 = .ok (.bipush 32, 2) := by decide +kernel
theorem dX11_chunk_156 : decode cX11_chunk 156 = .ok (.if_icmp .ge 62, 3) := by decide +kernel
theorem dX11_chunk_159 : decode cX11_chunk 159 = .ok (.iload 6, 2) := by decide +kernel
theorem dX11_chunk_161 : decode cX11_chunk 161 = .ok (.bipush (-8), 2) := by decide +kernel
theorem dX11_chunk_163 : decode cX11_chunk 163 = .ok (.if_icmp .lt 55, 3) := by decide +kernel
theorem dX11_chunk_166 : decode cX11_chunk 166 = .ok (.iload 6, 2) := by decide +kernel
theorem dX11_chunk_168 : decode cX11_chunk 168 = .ok (.bipush 8, 2) := by decide +kernel
theorem dX11_chunk_170 : decode cX11_chunk 170 = .ok (.if_icmp .ge 48, 3) := by decide +kernel
theorem dX11_chunk_173 : decode cX11_chunk 173 = .ok (.iload 7, 2) := by decide +kernel
theorem dX11_chunk_175 : decode cX11_chunk 175 = .ok (.bipush (-8), 2) := by decide +kernel
theorem dX11_chunk_177 : decode cX11_chunk 177 = .ok (.if_icmp .lt 41, 3) := by decide +kernel
theorem dX11_chunk_180 : decode cX11_chunk 180 = .ok (.iload 7, 2) := by decide +kernel
theorem dX11_chunk_182 : decode cX11_chunk 182 = .ok (.bipush 8, 2) := by decide +kernel
theorem dX11_chunk_184 : decode cX11_chunk 184 = .ok (.if_icmp .ge 34, 3) := by decide +kernel
theorem dX11_chunk_187 : decode cX11_chunk 187 = .ok (.aload_n 0, 1) := by decide +kernel
theorem dX11_chunk_188 : decode cX11_chunk 188 = .ok (.sipush 160, 3) := by decide +kernel
theorem dX11_chunk_191 : decode cX11_chunk 191 = .ok (.iload 4, 2) := by decide +kernel
theorem dX11_chunk_193 : decode cX11_chunk 193 = .ok (.iadd, 1) := by decide +kernel
theorem dX11_chunk_194 : decode cX11_chunk 194 = .ok (.invokevirtual 280, 3) := by decide +kernel
theorem dX11_chunk_197 : decode cX11_chunk 197 = .ok (.aload_n 0, 1) := by decide +kernel
theorem dX11_chunk_198 : decode cX11_chunk 198 = .ok (.bipush 16, 2) := by decide +kernel
theorem dX11_chunk_200 : decode cX11_chunk 200 = .ok (.iload 6, 2) := by decide +kernel
theorem dX11_chunk_202 : decode cX11_chunk 202 = .ok (.bipush 8, 2) := by decide +kernel
theorem dX11_chunk_204 : decode cX11_chunk 204 = .ok (.iadd, 1) := by decide +kernel
theorem dX11_chunk_205 : decode cX11_chunk 205 = .ok (.imul, 1) := by decide +kernel
theorem dX11_chunk_206 : decode cX11_chunk 206 = .ok (.iload 7, 2) := by decide +kernel
theorem dX11_chunk_208 : decode cX11_chunk 208 = .ok (.iadd, 1) := by decide +kernel
theorem dX11_chunk_209 : decode cX11_chunk 209 = .ok (.bipush 8, 2) := by decide +kernel
theorem dX11_chunk_211 : decode cX11_chunk 211 = .ok (.iadd, 1) := by decide +kernel
theorem dX11_chunk_212 : decode cX11_chunk 212 = .ok (.invokevirtual 280, 3) := by decide +kernel
theorem dX11_chunk_215 : decode cX11_chunk 215 = .ok (.goto 55, 3) := by decide +kernel
theorem dX11_chunk_218 : decode cX11_chunk 218 = .ok (.aload_n 0, 1) := by decide +kernel
theorem dX11_chunk_219 : decode cX11_chunk 219 = .ok (.iload 8, 2) := by decide +kernel
theorem dX11_chunk_221 : decode cX11_chunk 221 = .ok (.ifCond .eq 9, 3) := by decide +kernel
theorem dX11_chunk_224 : decode cX11_chunk 224 = .ok (.sipush 254, 3) := by decide +kernel
theorem dX11_chunk_227 : decode cX11_chunk 227 = .ok (.goto 6, 3) := by decide +kernel
theorem dX11_chunk_230 : decode cX11_chunk 230 = .ok (.sipush 255, 3) := by decide +kernel
theorem dX11_chunk_233 : decode cX11_chunk 233 = .ok (.invokevirtual 280, 3) := by decide +kernel
theorem dX11_chunk_236 : decode cX11_chunk 236 = .ok (.aload_n 0, 1) := by decide +kernel
theorem dX11_chunk_237 : decode cX11_chunk 237 = .ok (.iload_n 2, 1) := by decide +kernel
theorem dX11_chunk_238 : decode cX11_chunk 238 = .ok (.bipush 24, 2) := by decide +kernel
theorem dX11_chunk_240 : decode cX11_chunk 240 = .ok (.ishr, 1) := by decide +kernel
theorem dX11_chunk_241 : decode cX11_chunk 241 = .ok (.invokevirtual 280, 3) := by decide +kernel
theorem dX11_chunk_244 : decode cX11_chunk 244 = .ok (.aload_n 0, 1) := by decide +kernel
theorem dX11_chunk_245 : decode cX11_chunk 245 = .ok (.iload_n 2, 1) := by decide +kernel
theorem dX11_chunk_246 : decode cX11_chunk 246 = .ok (.bipush 16, 2) := by decide +kernel
theorem dX11_chunk_248 : decode cX11_chunk 248 = .ok (.ishr, 1) := by decide +kernel
theorem dX11_chunk_249 : decode cX11_chunk 249 = .ok (.invokevirtual 280, 3) := by decide +kernel
theorem dX11_chunk_252 : decode cX11_chunk 252 = .ok (.aload_n 0, 1) := by decide +kernel
theorem dX11_chunk_253 : decode cX11_chunk 253 = .ok (.iload_n 2, 1) := by decide +kernel
theorem dX11_chunk_254 : decode cX11_chunk 254 = .ok (.bipush 8, 2) := by decide +kernel
theorem dX11_chunk_256 : decode cX11_chunk 256 = .ok (.ishr, 1) := by decide +kernel
theorem dX11_chunk_257 : decode cX11_chunk 257 = .ok (.invokevirtual 280, 3) := by decide +kernel
theorem dX11_chunk_260 : decode cX11_chunk 260 = .ok (.iload 8, 2) := by decide +kernel
theorem dX11_chunk_262 : decode cX11_chunk 262 = .ok (.ifCond .ne 8, 3) := by decide +kernel
theorem dX11_chunk_265 : decode cX11_chunk 265 = .ok (.aload_n 0, 1) := by decide +kernel
theorem dX11_chunk_266 : decode cX11_chunk 266 = .ok (.iload_n 2, 1) := by decide +kernel
theorem dX11_chunk_267 : decode cX11_chunk 267 = .ok (.invokevirtual 280, 3) := by decide +kernel
theorem dX11_chunk_270 : decode cX11_chunk 270 = .ok (.return_, 1) := by decide +kernel
theorem dX11_writeMaps_0 : decode cX11_writeMaps 0 = .ok (.aload_n 0, 1) := by decide +kernel
theorem dX11_writeMaps_1 : decode cX11_writeMaps 1 = .ok (.bipush 80, 2) := by decide +kernel
theorem dX11_writeMaps_3 : decode cX11_writeMaps 3 = .ok (.invokevirtual 280, 3) := by decide +kernel
theorem dX11_writeMaps_6 : decode cX11_writeMaps 6 = .ok (.aload_n 0, 1) := by decide +kernel
theorem dX11_writeMaps_7 : decode cX11_writeMaps 7 = .ok (.bipush 48, 2) := by decide +kernel
theorem dX11_writeMaps_9 : decode cX11_writeMaps 9 = .ok (.iload_n 2, 1) := by decide +kernel
theorem dX11_writeMaps_10 : decode cX11_writeMaps 10 = .ok (.iadd, 1) := by decide +kernel
theorem dX11_writeMaps_11 : decode cX11_writeMaps 11 = .ok (.invokevirtual 280, 3) := by decide +kernel
theorem dX11_writeMaps_14 : decode cX11_writeMaps 14 = .ok (.aload_n 0, 1) := by decide +kernel
theorem dX11_writeMaps_15 : decode cX11_writeMaps 15 = .ok (.bipush 10, 2) := by decide +kernel
theorem dX11_writeMaps_17 : decode cX11_writeMaps 17 = .ok (.invokevirtual 280, 3) := by decide +kernel
theorem dX11_writeMaps_20 : decode cX11_writeMaps 20 = .ok (.aload_n 0, 1) := by decide +kernel
theorem dX11_writeMaps_21 : decode cX11_writeMaps 21 = .ok (.aload_n 0, 1) := by decide +kernel
theorem dX11_writeMaps_22 : decode cX11_writeMaps 22 = .ok (.getfield 21, 3) := by decide +kernel
theorem dX11_writeMaps_25 : decode cX11_writeMaps 25 = .ok (.iload_n 1, 1) := by decide +kernel
theorem dX11_writeMaps_26 : decode cX11_writeMaps 26 = .ok (.iaload, 1) := by decide +kernel
theorem dX11_writeMaps_27 : decode cX11_writeMaps 27 = .ok (.invokevirtual 282, 3) := by decide +kernel
theorem dX11_writeMaps_30 : decode cX11_writeMaps 30 = .ok (.aload_n 0, 1) := by decide +kernel
theorem dX11_writeMaps_31 : decode cX11_writeMaps 31 = .ok (.bipush 32, 2) := by decide +kernel
theorem dX11_writeMaps_33 : decode cX11_writeMaps 33 = .ok (.invokevirtual 280, 3) := by decide +kernel
theorem dX11_writeMaps_36 : decode cX11_writeMaps 36 = .ok (.aload_n 0, 1) := by decide +kernel
theorem dX11_writeMaps_37 : decode cX11_writeMaps 37 = .ok (.aload_n 0, 1) := by decide +kernel
theorem dX11_writeMaps_38 : decode cX11_writeMaps 38 = .ok (.getfield 24, 3) := by decide +kernel
theorem dX11_writeMaps_41 : decode cX11_writeMaps 41 = .ok (.iload_n 1, 1) := by decide +kernel
theorem dX11_writeMaps_42 : decode cX11_writeMaps 42 = .ok (.iaload, 1) := by decide +kernel
theorem dX11_writeMaps_43 : decode cX11_writeMaps 43 = .ok (.invokevirtual 282, 3) := by decide +kernel
theorem dX11_writeMaps_46 : decode cX11_writeMaps 46 = .ok (.aload_n 0, 1) := by decide +kernel
theorem dX11_writeMaps_47 : decode cX11_writeMaps 47 = .ok (.bipush 10, 2) := by decide +kernel
theorem dX11_writeMaps_49 : decode cX11_writeMaps 49 = .ok (.invokevirtual 280, 3) := by decide +kernel
theorem dX11_writeMaps_52 : decode cX11_writeMaps 52 = .ok (.iload_n 2, 1) := by decide +kernel
theorem dX11_writeMaps_53 : decode cX11_writeMaps 53 = .ok (.iconst 1, 1) := by decide +kernel
theorem dX11_writeMaps_54 : decode cX11_writeMaps 54 = .ok (.if_icmp .eq 21, 3) := by decide +kernel
theorem dX11_writeMaps_57 : decode cX11_writeMaps 57 = .ok (.iload_n 2, 1) := by decide +kernel
theorem dX11_writeMaps_58 : decode cX11_writeMaps 58 = .ok (.iconst 4, 1) := by decide +kernel
theorem dX11_writeMaps_59 : decode cX11_writeMaps 59 = .ok (.if_icmp .eq 16, 3) := by decide +kernel
theorem dX11_writeMaps_62 : decode cX11_writeMaps 62 = .ok (.aload_n 0, 1) := by decide +kernel
theorem dX11_writeMaps_63 : decode cX11_writeMaps 63 = .ok (.sipush 255, 3) := by decide +kernel
theorem dX11_writeMaps_66 : decode cX11_writeMaps 66 = .ok (.invokevirtual 282, 3) := by decide +kernel
theorem dX11_writeMaps_69 : decode cX11_writeMaps 69 = .ok (.aload_n 0, 1) := by decide +kernel
theorem dX11_writeMaps_70 : decode cX11_writeMaps 70 = .ok (.bipush 10, 2) := by decide +kernel
theorem dX11_writeMaps_72 : decode cX11_writeMaps 72 = .ok (.invokevirtual 280, 3) := by decide +kernel
theorem dX11_writeMaps_75 : decode cX11_writeMaps 75 = .ok (.iconst 0, 1) := by decide +kernel
theorem dX11_writeMaps_76 : decode cX11_writeMaps 76 = .ok (.istore_n 3, 1) := by decide +kernel
theorem dX11_writeMaps_77 : decode cX11_writeMaps 77 = .ok (.iload_n 3, 1) := by decide +kernel
theorem dX11_writeMaps_78 : decode cX11_writeMaps 78 = .ok (.aload_n 0, 1) := by decide +kernel
theorem dX11_writeMaps_79 : decode cX11_writeMaps 79 = .ok (.getfield 24, 3) := by decide +kernel
theorem dX11_writeMaps_82 : decode cX11_writeMaps 82 = .ok (.iload_n 1, 1) := by decide +kernel
theorem dX11_writeMaps_83 : decode cX11_writeMaps 83 = .ok (.iaload, 1) := by decide +kernel
theorem dX11_writeMaps_84 : decode cX11_writeMaps 84 = .ok (.if_icmp .ge 277, 3) := by decide +kernel
theorem dX11_writeMaps_87 : decode cX11_writeMaps 87 = .ok (.iconst 0, 1) := by decide +kernel
theorem dX11_writeMaps_88 : decode cX11_writeMaps 88 = .ok (.istore 4, 2) := by decide +kernel
theorem dX11_writeMaps_90 : decode cX11_writeMaps 90 = .ok (.iconst 0, 1) := by decide +kernel
theorem dX11_writeMaps_91 : decode cX11_writeMaps 91 = .ok (.istore 5, 2) := by decide +kernel
theorem dX11_writeMaps_93 : decode cX11_writeMaps 93 = .ok (.iload 5, 2) := by decide +kernel
theorem dX11_writeMaps_95 : decode cX11_writeMaps 95 = .ok (.aload_n 0, 1) := by decide +kernel
theorem dX11_writeMaps_96 : decode cX11_writeMaps 96 = .ok (.getfield 21, 3) := by decide +kernel
theorem dX11_writeMaps_99 : decode cX11_writeMaps 99 = .ok (.iload_n 1, 1) := by decide +kernel
theorem dX11_writeMaps_100 : decode cX11_writeMaps 100 = .ok (.iaload, 1) := by decide +kernel
theorem dX11_writeMaps_101 : decode cX11_writeMaps 101 = .ok (.if_icmp .ge 254, 3) := by decide +kernel
theorem dX11_writeMaps_104 : decode cX11_writeMaps 104 = .ok (.aload_n 0, 1) := by decide +kernel
theorem dX11_writeMaps_105 : decode cX11_writeMaps 105 = .ok (.iload_n 1, 1) := by decide +kernel
theorem dX11_writeMaps_106 : decode cX11_writeMaps 106 = .ok (.iload 5, 2) := by decide +kernel
theorem dX11_writeMaps_108 : decode cX11_writeMaps 108 = .ok (.iload_n 3, 1) := by decide +kernel
theorem dX11_writeMaps_109 : decode cX11_writeMaps 109 = .ok (.invokevirtual 291, 3) := by decide +kernel
theorem dX11_writeMaps_112 : decode cX11_writeMaps 112 = .ok (.istore 6, 2) := by decide +kernel
theorem dX11_writeMaps_114 : decode cX11_writeMaps 114 = .ok (.iload 5, 2) := by decide +kernel
theorem dX11_writeMaps_116 : decode cX11_writeMaps 116 = .ok (.aload_n 0, 1) := by decide +kernel
theorem dX11_writeMaps_117 : decode cX11_writeMaps 117 = .ok (.getfield 21, 3) := by decide +kernel
theorem dX11_writeMaps_120 : decode cX11_writeMaps 120 = .ok (.iload_n 1, 1) := by decide +kernel
theorem dX11_writeMaps_121 : decode cX11_writeMaps 121 = .ok (.iaload, 1) := by decide +kernel
theorem dX11_writeMaps_122 : decode cX11_writeMaps 122 = .ok (.iconst 1, 1) := by decide +kernel
theorem dX11_writeMaps_123 : decode cX11_writeMaps 123 = .ok (.isub, 1) := by decide +kernel
theorem dX11_writeMaps_124 : decode cX11_writeMaps 124 = .ok (.if_icmp .ne 7, 3) := by decide +kernel
theorem dX11_writeMaps_127 : decode cX11_writeMaps 127 = .ok (.iconst 1, 1) := by decide +kernel
theorem dX11_writeMaps_128 : decode cX11_writeMaps 128 = .ok (.goto 4, 3) := by decide +kernel
theorem dX11_writeMaps_131 : decode cX11_writeMaps 131 = .ok (.iconst 0, 1) := by decide +kernel
theorem dX11_writeMaps_132 : decode cX11_writeMaps 132 = .ok (.istore 7, 2) := by decide +kernel
theorem dX11_writeMaps_134 : decode cX11_writeMaps 134 = .ok (.iload_n 2, 1) := by decide +kernel
theorem dX11_writeMaps_135 : decode cX11_writeMaps 135 = .ok (.iconst 1, 1) := by decide +kernel
theorem dX11_writeMaps_136 : decode cX11_writeMaps 136 = .ok (.if_icmp .ne 44, 3) := by decide +kernel
theorem dX11_writeMaps_139 : decode cX11_writeMaps 139 = .ok (.aload_n 0, 1) := by decide +kernel
theorem dX11_writeMaps_140 : decode cX11_writeMaps 140 = .ok (.iload 6, 2) := by decide +kernel
theorem dX11_writeMaps_142 : decode cX11_writeMaps 142 = .ok (.iconst (-1), 1) := by decide +kernel
theorem dX11_writeMaps_143 : decode cX11_writeMaps 143 = .ok (.if_icmp .ne 8, 3) := by decide +kernel
theorem dX11_writeMaps_146 : decode cX11_writeMaps 146 = .ok (.bipush 48, 2) := by decide +kernel
theorem dX11_writeMaps_148 : decode cX11_writeMaps 148 = .ok (.goto 5, 3) := by decide +kernel
theorem dX11_writeMaps_151 : decode cX11_writeMaps 151 = .ok (.bipush 49, 2) := by decide +kernel
theorem dX11_writeMaps_153 : decode cX11_writeMaps 153 = .ok (.invokevirtual 280, 3) := by decide +kernel
theorem dX11_writeMaps_156 : decode cX11_writeMaps 156 = .ok (.iload 7, 2) := by decide +kernel
theorem dX11_writeMaps_158 : decode cX11_writeMaps 158 = .ok (.ifCond .ne 13, 3) := by decide +kernel
theorem dX11_writeMaps_161 : decode cX11_writeMaps 161 = .ok (.iload 5, 2) := by decide +kernel
theorem dX11_writeMaps_163 : decode cX11_writeMaps 163 = .ok (.bipush 70, 2) := by decide +kernel
theorem dX11_writeMaps_165 : decode cX11_writeMaps 165 = .ok (.irem, 1) := by decide +kernel
theorem dX11_writeMaps_166 : decode cX11_writeMaps 166 = .ok (.bipush 69, 2) := by decide +kernel
theorem dX11_writeMaps_168 : decode cX11_writeMaps 168 = .ok (.if_icmp .ne 181, 3) := by decide +kernel
theorem dX11_writeMaps_171 : decode cX11_writeMaps 171 = .ok (.aload_n 0, 1) := by decide +kernel
theorem dX11_writeMaps_172 : decode cX11_writeMaps 172 = .ok (.bipush 10, 2) := by decide +kernel
theorem dX11_writeMaps_174 : decode cX11_writeMaps 174 = .ok (.invokevirtual 280, 3) := by decide +kernel
theorem dX11_writeMaps_177 : decode cX11_writeMaps 177 = .ok (.goto 172, 3) := by decide +kernel
theorem dX11_writeMaps_180 : decode cX11_writeMaps 180 = .ok (.iload_n 2, 1) := by decide +kernel
theorem dX11_writeMaps_181 : decode cX11_writeMaps 181 = .ok (.iconst 4, 1) := by decide +kernel
theorem dX11_writeMaps_182 : decode cX11_writeMaps 182 = .ok (.if_icmp .ne 50, 3) := by decide +kernel
theorem dX11_writeMaps_185 : decode cX11_writeMaps 185 = .ok (.iload 6, 2) := by decide +kernel
theorem dX11_writeMaps_187 : decode cX11_writeMaps 187 = .ok (.iconst (-1), 1) := by decide +kernel
theorem dX11_writeMaps_188 : decode cX11_writeMaps 188 = .ok (.if_icmp .eq 17, 3) := by decide +kernel
theorem dX11_writeMaps_191 : decode cX11_writeMaps 191 = .ok (.iload 4, 2) := by decide +kernel
theorem dX11_writeMaps_193 : decode cX11_writeMaps 193 = .ok (.sipush 128, 3) := by decide +kernel
theorem dX11_writeMaps_196 : decode cX11_writeMaps 196 = .ok (.iload 5, 2) := by decide +kernel
theorem dX11_writeMaps_198 : decode cX11_writeMaps 198 = .ok (.bipush 8, 2) := by decide +kernel
theorem dX11_writeMaps_200 : decode cX11_writeMaps 200 = .ok (.irem, 1) := by decide +kernel
theorem dX11_writeMaps_201 : decode cX11_writeMaps 201 = .ok (.ishr, 1) := by decide +kernel
theorem dX11_writeMaps_202 : decode cX11_writeMaps 202 = .ok (.ior, 1) := by decide +kernel
theorem dX11_writeMaps_203 : decode cX11_writeMaps 203 = .ok (.istore 4, 2) := by decide +kernel
theorem dX11_writeMaps_205 : decode cX11_writeMaps 205 = .ok (.iload 7, 2) := by decide +kernel
theorem dX11_writeMaps_207 : decode cX11_writeMaps 207 = .ok (.ifCond .ne 13, 3) := by decide +kernel
theorem dX11_writeMaps_210 : decode cX11_writeMaps 210 = .ok (.iload 5, 2) := by decide +kernel
theorem dX11_writeMaps_212 : decode cX11_writeMaps 212 = .ok (.bipush 8, 2) := by decide +kernel
theorem dX11_writeMaps_214 : decode cX11_writeMaps 214 = .ok (.irem, 1) := by decide +kernel
theorem dX11_writeMaps_215 : decode cX11_writeMaps 215 = .ok (.bipush 7, 2) := by decide +kernel
theorem dX11_writeMaps_217 : decode cX11_writeMaps 217 = .ok (.if_icmp .ne 132, 3) := by decide +kernel
theorem dX11_writeMaps_220 : decode cX11_writeMaps 220 = .ok (.aload_n 0, 1) := by decide +kernel
theorem dX11_writeMaps_221 : decode cX11_writeMaps 221 = .ok (.iload 4, 2) := by decide +kernel
theorem dX11_writeMaps_223 : decode cX11_writeMaps 223 = .ok (.invokevirtual 280, 3) := by decide +kernel
theorem dX11_writeMaps_226 : decode cX11_writeMaps 226 = .ok (.iconst 0, 1) := by decide +kernel
theorem dX11_writeMaps_227 : decode cX11_writeMaps 227 = .ok (.istore 4, 2) := by decide +kernel
theorem dX11_writeMaps_229 : decode cX11_writeMaps 229 = .ok (.goto 120, 3) := by decide +kernel
theorem dX11_writeMaps_232 : decode cX11_writeMaps 232 = .ok (.iload_n 2, 1) := by decide +kernel
theorem dX11_writeMaps_233 : decode cX11_writeMaps 233 = .ok (.iconst 2, 1) := by decide +kernel
theorem dX11_writeMaps_234 : decode cX11_writeMaps 234 = .ok (.if_icmp .ne 21, 3) := by decide +kernel
theorem dX11_writeMaps_237 : decode cX11_writeMaps 237 = .ok (.aload_n 0, 1) := by decide +kernel
theorem dX11_writeMaps_238 : decode cX11_writeMaps 238 = .ok (.iload 6, 2) := by decide +kernel
theorem dX11_writeMaps_240 : decode cX11_writeMaps 240 = .ok (.bipush 24, 2) := by decide +kernel
theorem dX11_writeMaps_242 : decode cX11_writeMaps 242 = .ok (.iushr, 1) := by decide +kernel
theorem dX11_writeMaps_243 : decode cX11_writeMaps 243 = .ok (.invokevirtual 282, 3) := by decide +kernel
theorem dX11_writeMaps_246 : decode cX11_writeMaps 246 = .ok (.aload_n 0, 1) := by decide +kernel
theorem dX11_writeMaps_247 : decode cX11_writeMaps 247 = .ok (.bipush 10, 2) := by decide +kernel
theorem dX11_writeMaps_249 : decode cX11_writeMaps 249 = .ok (.invokevirtual 280, 3) := by decide +kernel
theorem dX11_writeMaps_252 : decode cX11_writeMaps 252 = .ok (.goto 97, 3) := by decide +kernel
theorem dX11_writeMaps_255 : decode cX11_writeMaps 255 = .ok (.iload_n 2, 1) := by decide +kernel
theorem dX11_writeMaps_256 : decode cX11_writeMaps 256 = .ok (.iconst 3, 1) := by decide +kernel
theorem dX11_writeMaps_257 : decode cX11_writeMaps 257 = .ok (.if_icmp .ne 59, 3) := by decide +kernel
theorem dX11_writeMaps_260 : decode cX11_writeMaps 260 = .ok (.aload_n 0, 1) := by decide +kernel
theorem dX11_writeMaps_261 : decode cX11_writeMaps 261 = .ok (.iload 6, 2) := by decide +kernel
theorem dX11_writeMaps_263 : decode cX11_writeMaps 263 = .ok (.bipush 24, 2) := by decide +kernel
theorem dX11_writeMaps_265 : decode cX11_writeMaps 265 = .ok (.iushr, 1) := by decide +kernel
theorem dX11_writeMaps_266 : decode cX11_writeMaps 266 = .ok (.invokevirtual 282, 3) := by decide +kernel
theorem dX11_writeMaps_269 : decode cX11_writeMaps 269 = .ok (.aload_n 0, 1) := by decide +kernel
theorem dX11_writeMaps_270 : decode cX11_writeMaps 270 = .ok (.bipush 32, 2) := by decide +kernel
theorem dX11_writeMaps_272 : decode cX11_writeMaps 272 = .ok (.invokevirtual 280, 3) := by decide +kernel
theorem dX11_writeMaps_275 : decode cX11_writeMaps 275 = .ok (.aload_n 0, 1) := by decide +kernel
theorem dX11_writeMaps_276 : decode cX11_writeMaps 276 = .ok (.iload 6, 2) := by decide +kernel
theorem dX11_writeMaps_278 : decode cX11_writeMaps 278 = .ok (.bipush 16, 2) := by decide +kernel
theorem dX11_writeMaps_280 : decode cX11_writeMaps 280 = .ok (.ishr, 1) := by decide +kernel
theorem dX11_writeMaps_281 : decode cX11_writeMaps 281 = .ok (.sipush 255, 3) := by decide +kernel
theorem dX11_writeMaps_284 : decode cX11_writeMaps 284 = .ok (.iand, 1) := by decide +kernel
theorem dX11_writeMaps_285 : decode cX11_writeMaps 285 = .ok (.invokevirtual 282, 3) := by decide +kernel
theorem dX11_writeMaps_288 : decode cX11_writeMaps 288 = .ok (.aload_n 0, 1) := by decide +kernel
theorem dX11_writeMaps_289 : decode cX11_writeMaps 289 = .ok (.bipush 32, 2) := by decide +kernel
theorem dX11_writeMaps_291 : decode cX11_writeMaps 291 = .ok (.invokevirtual 280, 3) := by decide +kernel
theorem dX11_writeMaps_294 : decode cX11_writeMaps 294 = .ok (.aload_n 0, 1) := by decide +kernel
theorem dX11_writeMaps_295 : decode cX11_writeMaps 295 = .ok (.iload 6, 2) := by decide +kernel
theorem dX11_writeMaps_297 : decode cX11_writeMaps 297 = .ok (.bipush 8, 2) := by decide +kernel
theorem dX11_writeMaps_299 : decode cX11_writeMaps 299 = .ok (.ishr, 1) := by decide +kernel
theorem dX11_writeMaps_300 : decode cX11_writeMaps 300 = .ok (.sipush 255, 3) := by decide +kernel
theorem dX11_writeMaps_303 : decode cX11_writeMaps 303 = .ok (.iand, 1) := by decide +kernel
theorem dX11_writeMaps_304 : decode cX11_writeMaps 304 = .ok (.invokevirtual 282, 3) := by decide +kernel
theorem dX11_writeMaps_307 : decode cX11_writeMaps 307 = .ok (.aload_n 0, 1) := by decide +kernel
theorem dX11_writeMaps_308 : decode cX11_writeMaps 308 = .ok (.bipush 10, 2) := by decide +kernel
theorem dX11_writeMaps_310 : decode cX11_writeMaps 310 = .ok (.invokevirtual 280, 3) := by decide +kernel
theorem dX11_writeMaps_313 : decode cX11_writeMaps 313 = .ok (.goto 36, 3) := by decide +kernel
theorem dX11_writeMaps_316 : decode cX11_writeMaps 316 = .ok (.aload_n 0, 1) := by decide +kernel
theorem dX11_writeMaps_317 : decode cX11_writeMaps 317 = .ok (.iload 6, 2) := by decide +kernel
theorem dX11_writeMaps_319 : decode cX11_writeMaps 319 = .ok (.bipush 24, 2) := by decide +kernel
theorem dX11_writeMaps_321 : decode cX11_writeMaps 321 = .ok (.ishr, 1) := by decide +kernel
theorem dX11_writeMaps_322 : decode cX11_writeMaps 322 = .ok (.invokevirtual 280, 3) := by decide +kernel
theorem dX11_writeMaps_325 : decode cX11_writeMaps 325 = .ok (.iload_n 2, 1) := by decide +kernel
theorem dX11_writeMaps_326 : decode cX11_writeMaps 326 = .ok (.bipush 6, 2) := by decide +kernel
theorem dX11_writeMaps_328 : decode cX11_writeMaps 328 = .ok (.if_icmp .ne 21, 3) := by decide +kernel
theorem dX11_writeMaps_331 : decode cX11_writeMaps 331 = .ok (.aload_n 0, 1) := by decide +kernel
theorem dX11_writeMaps_332 : decode cX11_writeMaps 332 = .ok (.iload 6, 2) := by decide +kernel
theorem dX11_writeMaps_334 : decode cX11_writeMaps 334 = .ok (.bipush 16, 2) := by decide +kernel
theorem dX11_writeMaps_336 : decode cX11_writeMaps 336 = .ok (.ishr, 1) := by decide +kernel
theorem dX11_writeMaps_337 : decode cX11_writeMaps 337 = .ok (.invokevirtual 280, 3) := by decide +kernel
theorem dX11_writeMaps_340 : decode cX11_writeMaps 340 = .ok (.aload_n 0, 1) := by decide +kernel
theorem dX11_writeMaps_341 : decode cX11_writeMaps 341 = .ok (.iload 6, 2) := by decide +kernel
theorem dX11_writeMaps_343 : decode cX11_writeMaps 343 = .ok (.bipush 8, 2) := by decide +kernel
theorem dX11_writeMaps_345 : decode cX11_writeMaps 345 = .ok (.ishr, 1) := by decide +kernel
theorem dX11_writeMaps_346 : decode cX11_writeMaps 346 = .ok (.invokevirtual 280, 3) := by decide +kernel
theorem dX11_writeMaps_349 : decode cX11_writeMaps 349 = .ok (.iinc 5 1, 3) := by decide +kernel
theorem dX11_writeMaps_352 : decode cX11_writeMaps 352 = .ok (.goto (-259), 3) := by decide +kernel
theorem dX11_writeMaps_355 : decode cX11_writeMaps 355 = .ok (.iinc 3 1, 3) := by decide +kernel
theorem dX11_writeMaps_358 : decode cX11_writeMaps 358 = .ok (.goto (-281), 3) := by decide +kernel
theorem dX11_writeMaps_361 : decode cX11_writeMaps 361 = .ok (.return_, 1) := by decide +kernel
theorem dX11_putBack_0 : decode cX11_putBack 0 = .ok (.aload_n 0, 1) := by decide +kernel
