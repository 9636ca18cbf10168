theorem dX11_readSamples_9 : decode cX11_readSamples 9 = .ok (.goto 4, 3) := by decide +kernel
theorem dX11_readSamples_12 : decode cX11_readSamples 12 = .ok (.iconst 3, 1) := by decide +kernel
theorem dX11_readSamples_13 : decode cX11_readSamples 13 = .ok (.istore_n 1, 1) := by decide +kernel
theorem dX11_readSamples_14 : decode cX11_readSamples 14 = .ok (.aload_n 0, 1) := by decide +kernel
theorem dX11_readSamples_15 : decode cX11_readSamples 15 = .ok (.getfield 133, 3) := by decide +kernel
theorem dX11_readSamples_18 : decode cX11_readSamples 18 = .ok (.sipush 256, 3) := by decide +kernel
theorem dX11_readSamples_21 : decode cX11_readSamples 21 = .ok (.if_icmp .ge 7, 3) := by decide +kernel
theorem dX11_readSamples_24 : decode cX11_readSamples 24 = .ok (.iconst 1, 1) := by decide +kernel
theorem dX11_readSamples_25 : decode cX11_readSamples 25 = .ok (.goto 4, 3) := by decide +kernel
theorem dX11_readSamples_28 : decode cX11_readSamples 28 = .ok (.iconst 2, 1) := by decide +kernel
theorem dX11_readSamples_29 : decode cX11_readSamples 29 = .ok (.istore_n 2, 1) := by decide +kernel
theorem dX11_readSamples_30 : decode cX11_readSamples 30 = .ok (.iconst 0, 1) := by decide +kernel
theorem dX11_readSamples_31 : decode cX11_readSamples 31 = .ok (.istore_n 3, 1) := by decide +kernel
theorem dX11_readSamples_32 : decode cX11_readSamples 32 = .ok (.iload_n 3, 1) := by decide +kernel
theorem dX11_readSamples_33 : decode cX11_readSamples 33 = .ok (.aload_n 0, 1) := by decide +kernel
theorem dX11_readSamples_34 : decode cX11_readSamples 34 = .ok (.getfield 109, 3) := by decide +kernel
theorem dX11_readSamples_37 : decode cX11_readSamples 37 = .ok (.aload_n 0, 1) := by decide +kernel
theorem dX11_readSamples_38 : decode cX11_readSamples 38 = .ok (.getfield 112, 3) := by decide +kernel
theorem dX11_readSamples_41 : decode cX11_readSamples 41 = .ok (.imul, 1) := by decide +kernel
theorem dX11_readSamples_42 : decode cX11_readSamples 42 = .ok (.if_icmp .ge 124, 3) := by decide +kernel
theorem dX11_readSamples_45 : decode cX11_readSamples 45 = .ok (.iconst 0, 1) := by decide +kernel
theorem dX11_readSamples_46 : decode cX11_readSamples 46 = .ok (.istore 4, 2) := by decide +kernel
theorem dX11_readSamples_48 : decode cX11_readSamples 48 = .ok (.iconst 0, 1) := by decide +kernel
theorem dX11_readSamples_49 : decode cX11_readSamples 49 = .ok (.istore 5, 2) := by decide +kernel
theorem dX11_readSamples_51 : decode cX11_readSamples 51 = .ok (.iload 5, 2) := by decide +kernel
theorem dX11_readSamples_53 : decode cX11_readSamples 53 = .ok (.iload_n 1, 1) := by decide +kernel
theorem dX11_readSamples_54 : decode cX11_readSamples 54 = .ok (.if_icmp .ge 78, 3) := by decide +kernel
theorem dX11_readSamples_57 : decode cX11_readSamples 57 = .ok (.aload_n 0, 1) := by decide +kernel
theorem dX11_readSamples_58 : decode cX11_readSamples 58 = .ok (.iload_n 2, 1) := by decide +kernel
theorem dX11_readSamples_59 : decode cX11_readSamples 59 = .ok (.invokevirtual 103, 3) := by decide +kernel
theorem dX11_readSamples_62 : decode cX11_readSamples 62 = .ok (.ifCond .ne 5, 3) := by decide +kernel
theorem dX11_readSamples_65 : decode cX11_readSamples 65 = .ok (.iconst 0, 1) := by decide +kernel
theorem dX11_readSamples_66 : decode cX11_readSamples 66 = .ok (.ireturn, 1) := by decide +kernel
theorem dX11_readSamples_67 : decode cX11_readSamples 67 = .ok (.aload_n 0, 1) := by decide +kernel
theorem dX11_readSamples_68 : decode cX11_readSamples 68 = .ok (.aload_n 0, 1) := by decide +kernel
theorem dX11_readSamples_69 : decode cX11_readSamples 69 = .ok (.getfield 84, 3) := by decide +kernel
theorem dX11_readSamples_72 : decode cX11_readSamples 72 = .ok (.iload_n 2, 1) := by decide +kernel
theorem dX11_readSamples_73 : decode cX11_readSamples 73 = .ok (.invokevirtual 122, 3) := by decide +kernel
theorem dX11_readSamples_76 : decode cX11_readSamples 76 = .ok (.l2i, 1) := by decide +kernel
theorem dX11_readSamples_77 : decode cX11_readSamples 77 = .ok (.istore 6, 2) := by decide +kernel
theorem dX11_readSamples_79 : decode cX11_readSamples 79 = .ok (.iload 6, 2) := by decide +kernel
theorem dX11_readSamples_81 : decode cX11_readSamples 81 = .ok (.aload_n 0, 1) := by decide +kernel
theorem dX11_readSamples_82 : decode cX11_readSamples 82 = .ok (.getfield 133, 3) := by decide +kernel
theorem dX11_readSamples_85 : decode cX11_readSamples 85 = .ok (.if_icmp .le 14, 3) := by decide +kernel
theorem dX11_readSamples_88 : decode cX11_readSamples 88 = .ok (.aload_n 0, 1) := by decide +kernel
theorem dX11_readSamples_89 : decode cX11_readSamples 89 = .ok (.bipush 6, 2) := by decide +kernel
theorem dX11_readSamples_91 : decode cX11_readSamples 91 = .ok (.aload_n 0, 1) := by decide +kernel
theorem dX11_readSamples_92 : decode cX11_readSamples 92 = .ok (.getfield 84, 3) := by decide +kernel
theorem dX11_readSamples_95 : decode cX11_readSamples 95 = .ok (.invokevirtual 90, 3) := by decide +kernel
theorem dX11_readSamples_98 : decode cX11_readSamples 98 = .ok (.ireturn, 1) := by decide +kernel
theorem dX11_readSamples_99 : decode cX11_readSamples 99 = .ok (.iload 4, 2) := by decide +kernel
theorem dX11_readSamples_101 : decode cX11_readSamples 101 = .ok (.bipush 8, 2) := by decide +kernel
theorem dX11_readSamples_103 : decode cX11_readSamples 103 = .ok (.ishl, 1) := by decide +kernel
theorem dX11_readSamples_104 : decode cX11_readSamples 104 = .ok (.iload 6, 2) := by decide +kernel
theorem dX11_readSamples_106 : decode cX11_readSamples 106 = .ok (.aload_n 0, 1) := by decide +kernel
theorem dX11_readSamples_107 : decode cX11_readSamples 107 = .ok (.getfield 133, 3) := by decide +kernel
theorem dX11_readSamples_110 : decode cX11_readSamples 110 = .ok (.invokestatic 179, 3) := by decide +kernel
theorem dX11_readSamples_113 : decode cX11_readSamples 113 = .ok (.ior, 1) := by decide +kernel
theorem dX11_readSamples_114 : decode cX11_readSamples 114 = .ok (.istore 4, 2) := by decide +kernel
theorem dX11_readSamples_116 : decode cX11_readSamples 116 = .ok (.aload_n 0, 1) := by decide +kernel
theorem dX11_readSamples_117 : decode cX11_readSamples 117 = .ok (.dup, 1) := by decide +kernel
theorem dX11_readSamples_118 : decode cX11_readSamples 118 = .ok (.getfield 84, 3) := by decide +kernel
theorem dX11_readSamples_121 : decode cX11_readSamples 121 = .ok (.iload_n 2, 1) := by decide +kernel
theorem dX11_readSamples_122 : decode cX11_readSamples 122 = .ok (.iadd, 1) := by decide +kernel
theorem dX11_readSamples_123 : decode cX11_readSamples 123 = .ok (.putfield 84, 3) := by decide +kernel
theorem dX11_readSamples_126 : decode cX11_readSamples 126 = .ok (.iinc 5 1, 3) := by decide +kernel
theorem dX11_readSamples_129 : decode cX11_readSamples 129 = .ok (.goto (-78), 3) := by decide +kernel
theorem dX11_readSamples_132 : decode cX11_readSamples 132 = .ok (.aload_n 0, 1) := by decide +kernel
theorem dX11_readSamples_133 : decode cX11_readSamples 133 = .ok (.getfield 27, 3) := by decide +kernel
theorem dX11_readSamples_136 : decode cX11_readSamples 136 = .ok (.iload_n 3, 1) := by decide +kernel
theorem dX11_readSamples_137 : decode cX11_readSamples 137 = .ok (.iload_n 1, 1) := by decide +kernel
theorem dX11_readSamples_138 : decode cX11_readSamples 138 = .ok (.iconst 1, 1) := by decide +kernel
theorem dX11_readSamples_139 : decode cX11_readSamples 139 = .ok (.if_icmp .ne 11, 3) := by decide +kernel
theorem dX11_readSamples_142 : decode cX11_readSamples 142 = .ok (.iload 4, 2) := by decide +kernel
theorem dX11_readSamples_144 : decode cX11_readSamples 144 = .ok (.invokestatic 176, 3) := by decide +kernel
theorem dX11_readSamples_147 : decode cX11_readSamples 147 = .ok (.goto 12, 3) := by decide +kernel
theorem dX11_readSamples_150 : decode cX11_readSamples 150 = .ok (.iload 4, 2) := by decide +kernel
theorem dX11_readSamples_152 : decode cX11_readSamples 152 = .ok (.bipush 8, 2) := by decide +kernel
theorem dX11_readSamples_154 : decode cX11_readSamples 154 = .ok (.ishl, 1) := by decide +kernel
theorem dX11_readSamples_155 : decode cX11_readSamples 155 = .ok (.sipush 255, 3) := by decide +kernel
theorem dX11_readSamples_158 : decode cX11_readSamples 158 = .ok (.ior, 1) := by decide +kernel
theorem dX11_readSamples_159 : decode cX11_readSamples 159 = .ok (.iastore, 1) := by decide +kernel
theorem dX11_readSamples_160 : decode cX11_readSamples 160 = .ok (.iinc 3 1, 3) := by decide +kernel
theorem dX11_readSamples_163 : decode cX11_readSamples 163 = .ok (.goto (-131), 3) := by decide +kernel
theorem dX11_readSamples_166 : decode cX11_readSamples 166 = .ok (.aload_n 0, 1) := by decide +kernel
theorem dX11_readSamples_167 : decode cX11_readSamples 167 = .ok (.invokevirtual 145, 3) := by decide +kernel
theorem dX11_readSamples_170 : decode cX11_readSamples 170 = .ok (.ireturn, 1) := by decide +kernel
theorem dX11_readRows_0 : decode cX11_readRows 0 = .ok (.aload_n 0, 1) := by decide +kernel
theorem dX11_readRows_1 : decode cX11_readRows 1 = .ok (.bipush 66, 2) := by decide +kernel
theorem dX11_readRows_3 : decode cX11_readRows 3 = .ok (.invokevirtual 119, 3) := by decide +kernel
theorem dX11_readRows_6 : decode cX11_readRows 6 = .ok (.ifCond .eq 12, 3) := by decide +kernel
theorem dX11_readRows_9 : decode cX11_readRows 9 = .ok (.aload_n 0, 1) := by decide +kernel
theorem dX11_readRows_10 : decode cX11_readRows 10 = .ok (.bipush 77, 2) := by decide +kernel
theorem dX11_readRows_12 : decode cX11_readRows 12 = .ok (.invokevirtual 119, 3) := by decide +kernel
theorem dX11_readRows_15 : decode cX11_readRows 15 = .ok (.ifCond .ne 5, 3) := by decide +kernel
theorem dX11_readRows_18 : decode cX11_readRows 18 = .ok (.iconst 0, 1) := by decide +kernel
theorem dX11_readRows_19 : decode cX11_readRows 19 = .ok (.ireturn, 1) := by decide +kernel
theorem dX11_readRows_20 : decode cX11_readRows 20 = .ok (.aload_n 0, 1) := by decide +kernel
theorem dX11_readRows_21 : decode cX11_readRows 21 = .ok (.iconst 4, 1) := by decide +kernel
theorem dX11_readRows_22 : decode cX11_readRows 22 = .ok (.invokevirtual 103, 3) := by decide +kernel
theorem dX11_readRows_25 : decode cX11_readRows 25 = .ok (.ifCond .ne 5, 3) := by decide +kernel
theorem dX11_readRows_28 : decode cX11_readRows 28 = .ok (.iconst 0, 1) := by decide +kernel
theorem dX11_readRows_29 : decode cX11_readRows 29 = .ok (.ireturn, 1) := by decide +kernel
theorem dX11_readRows_30 : decode cX11_readRows 30 = .ok (.aload_n 0, 1) := by decide +kernel
theorem dX11_readRows_31 : decode cX11_readRows 31 = .ok (.iconst 2, 1) := by decide +kernel
theorem dX11_readRows_32 : decode cX11_readRows 32 = .ok (.iconst 4, 1) := by decide +kernel
theorem dX11_readRows_33 : decode cX11_readRows 33 = .ok (.invokevirtual 183, 3) := by decide +kernel
theorem dX11_readRows_36 : decode cX11_readRows 36 = .ok (.aload_n 0, 1) := by decide +kernel
theorem dX11_readRows_37 : decode cX11_readRows 37 = .ok (.getfield 87, 3) := by decide +kernel
theorem dX11_readRows_40 : decode cX11_readRows 40 = .ok (.i2l, 1) := by decide +kernel
theorem dX11_readRows_41 : decode cX11_readRows 41 = .ok (.lcmp, 1) := by decide +kernel
theorem dX11_readRows_42 : decode cX11_readRows 42 = .ok (.ifCond .eq 10, 3) := by decide +kernel
theorem dX11_readRows_45 : decode cX11_readRows 45 = .ok (.aload_n 0, 1) := by decide +kernel
theorem dX11_readRows_46 : decode cX11_readRows 46 = .ok (.iconst 2, 1) := by decide +kernel
theorem dX11_readRows_47 : decode cX11_readRows 47 = .ok (.iconst 2, 1) := by decide +kernel
theorem dX11_readRows_48 : decode cX11_readRows 48 = .ok (.invokevirtual 90, 3) := by decide +kernel
theorem dX11_readRows_51 : decode cX11_readRows 51 = .ok (.ireturn, 1) := by decide +kernel
theorem dX11_readRows_52 : decode cX11_readRows 52 = .ok (.aload_n 0, 1) := by decide +kernel
theorem dX11_readRows_53 : decode cX11_readRows 53 = .ok (.bipush 6, 2) := by decide +kernel
theorem dX11_readRows_55 : decode cX11_readRows 55 = .ok (.putfield 84, 3) := by decide +kernel
theorem dX11_readRows_58 : decode cX11_readRows 58 = .ok (.aload_n 0, 1) := by decide +kernel
theorem dX11_readRows_59 : decode cX11_readRows 59 = .ok (.iconst 4, 1) := by decide +kernel
theorem dX11_readRows_60 : decode cX11_readRows 60 = .ok (.invokevirtual 103, 3) := by decide +kernel
theorem dX11_readRows_63 : decode cX11_readRows 63 = .ok (.ifCond .ne 5, 3) := by decide +kernel
theorem dX11_readRows_66 : decode cX11_readRows 66 = .ok (.iconst 0, 1) := by decide +kernel
theorem dX11_readRows_67 : decode cX11_readRows 67 = .ok (.ireturn, 1) := by decide +kernel
theorem dX11_readRows_68 : decode cX11_readRows 68 = .ok (.aload_n 0, 1) := by decide +kernel
theorem dX11_readRows_69 : decode cX11_readRows 69 = .ok (.bipush 6, 2) := by decide +kernel
theorem dX11_readRows_71 : decode cX11_readRows 71 = .ok (.iconst 4, 1) := by decide +kernel
theorem dX11_readRows_72 : decode cX11_readRows 72 = .ok (.invokevirtual 183, 3) := by decide +kernel
theorem dX11_readRows_75 : decode cX11_readRows 75 = .ok (.lconst 0, 1) := by decide +kernel
theorem dX11_readRows_76 : decode cX11_readRows 76 = .ok (.lcmp, 1) := by decide +kernel
theorem dX11_readRows_77 : decode cX11_readRows 77 = .ok (.ifCond .eq 11, 3) := by decide +kernel
theorem dX11_readRows_80 : decode cX11_readRows 80 = .ok (.aload_n 0, 1) := by decide +kernel
theorem dX11_readRows_81 : decode cX11_readRows 81 = .ok (.iconst 2, 1) := by decide +kernel
theorem dX11_readRows_82 : decode cX11_readRows 82 = .ok (.bipush 6, 2) := by decide +kernel
theorem dX11_readRows_84 : decode cX11_readRows 84 = .ok (.invokevirtual 90, 3) := by decide +kernel
theorem dX11_readRows_87 : decode cX11_readRows 87 = .ok (.ireturn, 1) := by decide +kernel
theorem dX11_readRows_88 : decode cX11_readRows 88 = .ok (.aload_n 0, 1) := by decide +kernel
theorem dX11_readRows_89 : decode cX11_readRows 89 = .ok (.bipush 10, 2) := by decide +kernel
theorem dX11_readRows_91 : decode cX11_readRows 91 = .ok (.putfield 84, 3) := by decide +kernel
theorem dX11_readRows_94 : decode cX11_readRows 94 = .ok (.aload_n 0, 1) := by decide +kernel
theorem dX11_readRows_95 : decode cX11_readRows 95 = .ok (.iconst 4, 1) := by decide +kernel
theorem dX11_readRows_96 : decode cX11_readRows 96 = .ok (.invokevirtual 103, 3) := by decide +kernel
theorem dX11_readRows_99 : decode cX11_readRows 99 = .ok (.ifCond .ne 5, 3) := by decide +kernel
theorem dX11_readRows_102 : decode cX11_readRows 102 = .ok (.iconst 0, 1) := by decide +kernel
theorem dX11_readRows_103 : decode cX11_readRows 103 = .ok (.ireturn, 1) := by decide +kernel
theorem dX11_readRows_104 : decode cX11_readRows 104 = .ok (.aload_n 0, 1) := by decide +kernel
theorem dX11_readRows_105 : decode cX11_readRows 105 = .ok (.bipush 10, 2) := by decide +kernel
theorem dX11_readRows_107 : decode cX11_readRows 107 = .ok (.iconst 4, 1) := by decide +kernel
theorem dX11_readRows_108 : decode cX11_readRows 108 = .ok (.invokevirtual 183, 3) := by decide +kernel
theorem dX11_readRows_111 : decode cX11_readRows 111 = .ok (.lstore_n 1, 1) := by decide +kernel
theorem dX11_readRows_112 : decode cX11_readRows 112 = .ok (.aload_n 0, 1) := by decide +kernel
theorem dX11_readRows_113 : decode cX11_readRows 113 = .ok (.bipush 14, 2) := by decide +kernel
theorem dX11_readRows_115 : decode cX11_readRows 115 = .ok (.putfield 84, 3) := by decide +kernel
theorem dX11_readRows_118 : decode cX11_readRows 118 = .ok (.aload_n 0, 1) := by decide +kernel
theorem dX11_readRows_119 : decode cX11_readRows 119 = .ok (.iconst 4, 1) := by decide +kernel
theorem dX11_readRows_120 : decode cX11_readRows 120 = .ok (.invokevirtual 103, 3) := by decide +kernel
theorem dX11_readRows_123 : decode cX11_readRows 123 = .ok (.ifCond .ne 5, 3) := by decide +kernel
theorem dX11_readRows_126 : decode cX11_readRows 126 = .ok (.iconst 0, 1) := by decide +kernel
theorem dX11_readRows_127 : decode cX11_readRows 127 = .ok (.ireturn, 1) := by decide +kernel
theorem dX11_readRows_128 : decode cX11_readRows 128 = .ok (.aload_n 0, 1) := by decide +kernel
theorem dX11_readRows_129 : decode cX11_readRows 129 = .ok (.bipush 14, 2) := by decide +kernel
theorem dX11_readRows_131 : decode cX11_readRows 131 = .ok (.iconst 4, 1) := by decide +kernel
theorem dX11_readRows_132 : decode cX11_readRows 132 = .ok (.invokevirtual 183, 3) := by decide +kernel
theorem dX11_readRows_135 : decode cX11_readRows 135 = .ok (.ldc2_w 186, 3) := by decide +kernel
theorem dX11_readRows_138 : decode cX11_readRows 138 = .ok (.lcmp, 1) := by decide +kernel
theorem dX11_readRows_139 : decode cX11_readRows 139 = .ok (.ifCond .eq 11, 3) := by decide +kernel
theorem dX11_readRows_142 : decode cX11_readRows 142 = .ok (.aload_n 0, 1) := by decide +kernel
theorem dX11_readRows_143 : decode cX11_readRows 143 = .ok (.iconst 2, 1) := by decide +kernel
theorem dX11_readRows_144 : decode cX11_readRows 144 = .ok (.bipush 14, 2) := by decide +kernel
theorem dX11_readRows_146 : decode cX11_readRows 146 = .ok (.invokevirtual 90, 3) := by decide +kernel
theorem dX11_readRows_149 : decode cX11_readRows 149 = .ok (.ireturn, 1) := by decide +kernel
theorem dX11_readRows_150 : decode cX11_readRows 150 = .ok (.aload_n 0, 1) := by decide +kernel
theorem dX11_readRows_151 : decode cX11_readRows 151 = .ok (.bipush 18, 2) := by decide +kernel
theorem dX11_readRows_153 : decode cX11_readRows 153 = .ok (.putfield 84, 3) := by decide +kernel
theorem dX11_readRows_156 : decode cX11_readRows 156 = .ok (.aload_n 0, 1) := by decide +kernel
theorem dX11_readRows_157 : decode cX11_readRows 157 = .ok (.iconst 4, 1) := by decide +kernel
theorem dX11_readRows_158 : decode cX11_readRows 158 = .ok (.invokevirtual 103, 3) := by decide +kernel
theorem dX11_readRows_161 : decode cX11_readRows 161 = .ok (.ifCond .ne 5, 3) := by decide +kernel
theorem dX11_readRows_164 : decode cX11_readRows 164 = .ok (.iconst 0, 1) := by decide +kernel
theorem dX11_readRows_165 : decode cX11_readRows 165 = .ok (.ireturn, 1) := by decide +kernel
theorem dX11_readRows_166 : decode cX11_readRows 166 = .ok (.aload_n 0, 1) := by decide +kernel
theorem dX11_readRows_167 : decode cX11_readRows 167 = .ok (.bipush 18, 2) := by decide +kernel
theorem dX11_readRows_169 : decode cX11_readRows 169 = .ok (.iconst 4, 1) := by decide +kernel
theorem dX11_readRows_170 : decode cX11_readRows 170 = .ok (.invokevirtual 183, 3) := by decide +kernel
theorem dX11_readRows_173 : decode cX11_readRows 173 = .ok (.l2i, 1) := by decide +kernel
theorem dX11_readRows_174 : decode cX11_readRows 174 = .ok (.istore_n 3, 1) := by decide +kernel
theorem dX11_readRows_175 : decode cX11_readRows 175 = .ok (.iload_n 3, 1) := by decide +kernel
theorem dX11_readRows_176 : decode cX11_readRows 176 = .ok (.iconst 1, 1) := by decide +kernel
theorem dX11_readRows_177 : decode cX11_readRows 177 = .ok (.if_icmp .ge 11, 3) := by decide +kernel
theorem dX11_readRows_180 : decode cX11_readRows 180 = .ok (.aload_n 0, 1) := by decide +kernel
theorem dX11_readRows_181 : decode cX11_readRows 181 = .ok (.iconst 2, 1) := by decide +kernel
theorem dX11_readRows_182 : decode cX11_readRows 182 = .ok (.bipush 18, 2) := by decide +kernel
theorem dX11_readRows_184 : decode cX11_readRows 184 = .ok (.invokevirtual 90, 3) := by decide +kernel
theorem dX11_readRows_187 : decode cX11_readRows 187 = .ok (.ireturn, 1) := by decide +kernel
theorem dX11_readRows_188 : decode cX11_readRows 188 = .ok (.aload_n 0, 1) := by decide +kernel
theorem dX11_readRows_189 : decode cX11_readRows 189 = .ok (.bipush 22, 2) := by decide +kernel
theorem dX11_readRows_191 : decode cX11_readRows 191 = .ok (.putfield 84, 3) := by decide +kernel
theorem dX11_readRows_194 : decode cX11_readRows 194 = .ok (.aload_n 0, 1) := by decide +kernel
theorem dX11_readRows_195 : decode cX11_readRows 195 = .ok (.iconst 4, 1) := by decide +kernel
theorem dX11_readRows_196 : decode cX11_readRows 196 = .ok (.invokevirtual 103, 3) := by decide +kernel
theorem dX11_readRows_199 : decode cX11_readRows 199 = .ok (.ifCond .ne 5, 3) := by decide +kernel
theorem dX11_readRows_202 : decode cX11_readRows 202 = .ok (.iconst 0, 1) := by decide +kernel
theorem dX11_readRows_203 : decode cX11_readRows 203 = .ok (.ireturn, 1) := by decide +kernel
theorem dX11_readRows_204 : decode cX11_readRows 204 = .ok (.aload_n 0, 1) := by decide +kernel
theorem dX11_readRows_205 : decode cX11_readRows 205 = .ok (.bipush 22, 2) := by decide +kernel
theorem dX11_readRows_207 : decode cX11_readRows 207 = .ok (.iconst 4, 1) := by decide +kernel
theorem dX11_readRows_208 : decode cX11_readRows 208 = .ok (.invokevirtual 183, 3) := by decide +kernel
theorem dX11_readRows_211 : decode cX11_readRows 211 = .ok (.l2i, 1) := by decide +kernel
theorem dX11_readRows_212 : decode cX11_readRows 212 = .ok (.i2l, 1) := by decide +kernel
theorem dX11_readRows_213 : decode cX11_readRows 213 = .ok (.lstore 4, 2) := by decide +kernel
theorem dX11_readRows_215 : decode cX11_readRows 215 = .ok (.lload 4, 2) := by decide +kernel
theorem dX11_readRows_217 : decode cX11_readRows 217 = .ok (.lconst 0, 1) := by decide +kernel
theorem dX11_readRows_218 : decode cX11_readRows 218 = .ok (.lcmp, 1) := by decide +kernel
theorem dX11_readRows_219 : decode cX11_readRows 219 = .ok (.ifCond .ne 11, 3) := by decide +kernel
theorem dX11_readRows_222 : decode cX11_readRows 222 = .ok (.aload_n 0, 1) := by decide +kernel
theorem dX11_readRows_223 : decode cX11_readRows 223 = .ok (.iconst 2, 1) := by decide +kernel
theorem dX11_readRows_224 : decode cX11_readRows 224 = .ok (.bipush 22, 2) := by decide +kernel
theorem dX11_readRows_226 : decode cX11_readRows 226 = .ok (.invokevirtual 90, 3) := by decide +kernel
theorem dX11_readRows_229 : decode cX11_readRows 229 = .ok (.ireturn, 1) := by decide +kernel
theorem dX11_readRows_230 : decode cX11_readRows 230 = .ok (.lload 4, 2) := by decide +kernel
theorem dX11_readRows_232 : decode cX11_readRows 232 = .ok (.lconst 0, 1) := by decide +kernel
theorem dX11_readRows_233 : decode cX11_readRows 233 = .ok (.lcmp, 1) := by decide +kernel
theorem dX11_readRows_234 : decode cX11_readRows 234 = .ok (.ifCond .ge 7, 3) := by decide +kernel
theorem dX11_readRows_237 : decode cX11_readRows 237 = .ok (.iconst 1, 1) := by decide +kernel
theorem dX11_readRows_238 : decode cX11_readRows 238 = .ok (.goto 4, 3) := by decide +kernel
theorem dX11_readRows_241 : decode cX11_readRows 241 = .ok (.iconst 0, 1) := by decide +kernel
theorem dX11_readRows_242 : decode cX11_readRows 242 = .ok (.istore 6, 2) := by decide +kernel
theorem dX11_readRows_244 : decode cX11_readRows 244 = .ok (.aload_n 0, 1) := by decide +kernel
theorem dX11_readRows_245 : decode cX11_readRows 245 = .ok (.iload_n 3, 1) := by decide +kernel
theorem dX11_readRows_246 : decode cX11_readRows 246 = .ok (.i2l, 1) := by decide +kernel
theorem dX11_readRows_247 : decode cX11_readRows 247 = .ok (.iload 6, 2) := by decide +kernel
theorem dX11_readRows_249 : decode cX11_readRows 249 = .ok (.ifCond .eq 9, 3) := by decide +kernel
theorem dX11_readRows_252 : decode cX11_readRows 252 = .ok (.lload 4, 2) := by decide +kernel
theorem dX11_readRows_254 : decode cX11_readRows 254 = .ok (.lneg, 1) := by decide +kernel
theorem dX11_readRows_255 : decode cX11_readRows 255 = .ok (.goto 5, 3) := by decide +kernel
theorem dX11_readRows_258 : decode cX11_readRows 258 = .ok (.lload 4, 2) := by decide +kernel
theorem dX11_readRows_260 : decode cX11_readRows 260 = .ok (.bipush 22, 2) := by decide +kernel
theorem dX11_readRows_262 : decode cX11_readRows 262 = .ok (.invokevirtual 126, 3) := by decide +kernel
theorem dX11_readRows_265 : decode cX11_readRows 265 = .ok (.ifCond .ne 5, 3) := by decide +kernel
theorem dX11_readRows_268 : decode cX11_readRows 268 = .ok (.iconst 0, 1) := by decide +kernel
theorem dX11_readRows_269 : decode cX11_readRows 269 = .ok (.ireturn, 1) := by decide +kernel
theorem dX11_readRows_270 : decode cX11_readRows 270 = .ok (.aload_n 0, 1) := by decide +kernel
theorem dX11_readRows_271 : decode cX11_readRows 271 = .ok (.bipush 26, 2) := by decide +kernel
theorem dX11_readRows_273 : decode cX11_readRows 273 = .ok (.putfield 84, 3) := by decide +kernel
theorem dX11_readRows_276 : decode cX11_readRows 276 = .ok (.aload_n 0, 1) := by decide +kernel
theorem dX11_readRows_277 : decode cX11_readRows 277 = .ok (.iconst 2, 1) := by decide +kernel
theorem dX11_readRows_278 : decode cX11_readRows 278 = .ok (.invokevirtual 103, 3) := by decide +kernel
theorem dX11_readRows_281 : decode cX11_readRows 281 = .ok (.ifCond .ne 5, 3) := by decide +kernel
theorem dX11_readRows_284 : decode cX11_readRows 284 = .ok (.iconst 0, 1) := by decide +kernel
theorem dX11_readRows_285 : decode cX11_readRows 285 = .ok (.ireturn, 1) := by decide +kernel
theorem dX11_readRows_286 : decode cX11_readRows 286 = .ok (.aload_n 0, 1) := by decide +kernel
theorem dX11_readRows_287 : decode cX11_readRows 287 = .ok (.bipush 26, 2) := by decide +kernel
theorem dX11_readRows_289 : decode cX11_readRows 289 = .ok (.iconst 2, 1) := by decide +kernel
theorem dX11_readRows_290 : decode cX11_readRows 290 = .ok (.invokevirtual 183, 3) := by decide +kernel
theorem dX11_readRows_293 : decode cX11_readRows 293 = .ok (.lconst 1, 1) := by decide +kernel
theorem dX11_readRows_294 : decode cX11_readRows 294 = .ok (.lcmp, 1) := by decide +kernel
theorem dX11_readRows_295 : decode cX11_readRows 295 = .ok (.ifCond .eq 11, 3) := by decide +kernel
theorem dX11_readRows_298 : decode cX11_readRows 298 = .ok (.aload_n 0, 1) := by decide +kernel
theorem dX11_readRows_299 : decode cX11_readRows 299 = .ok (.iconst 2, 1) := by decide +kernel
theorem dX11_readRows_300 : decode cX11_readRows 300 = .ok (.bipush 26, 2) := by decide +kernel
theorem dX11_readRows_302 : decode cX11_readRows 302 = .ok (.invokevirtual 90, 3) := by decide +kernel
theorem dX11_readRows_305 : decode cX11_readRows 305 = .ok (.ireturn, 1) := by decide +kernel
theorem dX11_readRows_306 : decode cX11_readRows 306 = .ok (.aload_n 0, 1) := by decide +kernel
theorem dX11_readRows_307 : decode cX11_readRows 307 = .ok (.bipush 28, 2) := by decide +kernel
theorem dX11_readRows_309 : decode cX11_readRows 309 = .ok (.putfield 84, 3) := by decide +kernel
theorem dX11_readRows_312 : decode cX11_readRows 312 = .ok (.aload_n 0, 1) := by decide +kernel
theorem dX11_readRows_313 : decode cX11_readRows 313 = .ok (.iconst 2, 1) := by decide +kernel
theorem dX11_readRows_314 : decode cX11_readRows 314 = .ok (.invokevirtual 103, 3) := by decide +kernel
theorem dX11_readRows_317 : decode cX11_readRows 317 = .ok (.ifCond .ne 5, 3) := by decide +kernel
theorem dX11_readRows_320 : decode cX11_readRows 320 = .ok (.iconst 0, 1) := by decide +kernel
theorem dX11_readRows_321 : decode cX11_readRows 321 = .ok (.ireturn, 1) := by decide +kernel
theorem dX11_readRows_322 : decode cX11_readRows 322 = .ok (.aload_n 0, 1) := by decide +kernel
theorem dX11_readRows_323 : decode cX11_readRows 323 = .ok (.bipush 28, 2) := by decide +kernel
theorem dX11_readRows_325 : decode cX11_readRows 325 = .ok (.iconst 2, 1) := by decide +kernel
theorem dX11_readRows_326 : decode cX11_readRows 326 = .ok (.invokevirtual 183, 3) := by decide +kernel
theorem dX11_readRows_329 : decode cX11_readRows 329 = .ok (.l2i, 1) := by decide +kernel
theorem dX11_readRows_330 : decode cX11_readRows 330 = .ok (.istore 7, 2) := by decide +kernel
theorem dX11_readRows_332 : decode cX11_readRows 332 = .ok (.iload 7, 2) := by decide +kernel
theorem dX11_readRows_334 : decode cX11_readRows 334 = .ok (.iconst 1, 1) := by decide +kernel
theorem dX11_readRows_335 : decode cX11_readRows 335 = .ok (.if_icmp .eq 45, 3) := by decide +kernel
theorem dX11_readRows_338 : decode cX11_readRows 338 = .ok (.iload 7, 2) := by decide +kernel
theorem dX11_readRows_340 : decode cX11_readRows 340 = .ok (.iconst 4, 1) := by decide +kernel
theorem dX11_readRows_341 : decode cX11_readRows 341 = .ok (.if_icmp .eq 39, 3) := by decide +kernel
theorem dX11_readRows_344 : decode cX11_readRows 344 = .ok (.iload 7, 2) := by decide +kernel
theorem dX11_readRows_346 : decode cX11_readRows 346 = .ok (.bipush 8, 2) := by decide +kernel
theorem dX11_readRows_348 : decode cX11_readRows 348 = .ok (.if_icmp .eq 32, 3) := by decide +kernel
theorem dX11_readRows_351 : decode cX11_readRows 351 = .ok (.iload 7, 2) := by decide +kernel
theorem dX11_readRows_353 : decode cX11_readRows 353 = .ok (.bipush 16, 2) := by decide +kernel
theorem dX11_readRows_355 : decode cX11_readRows 355 = .ok (.if_icmp .eq 25, 3) := by decide +kernel
theorem dX11_readRows_358 : decode cX11_readRows 358 = .ok (.iload 7, 2) := by decide +kernel
theorem dX11_readRows_360 : decode cX11_readRows 360 = .ok (.bipush 24, 2) := by decide +kernel
theorem dX11_readRows_362 : decode cX11_readRows 362 = .ok (.if_icmp .eq 18, 3) := by decide +kernel
theorem dX11_readRows_365 : decode cX11_readRows 365 = .ok (.iload 7, 2) := by decide +kernel
theorem dX11_readRows_367 : decode cX11_readRows 367 = .ok (.bipush 32, 2) := by decide +kernel
theorem dX11_readRows_369 : decode cX11_readRows 369 = .ok (.if_icmp .eq 11, 3) := by decide +kernel
theorem dX11_readRows_372 : decode cX11_readRows 372 = .ok (.aload_n 0, 1) := by decide +kernel
theorem dX11_readRows_373 : decode cX11_readRows 373 = .ok (.iconst 2, 1) := by decide +kernel
theorem dX11_readRows_374 : decode cX11_readRows 374 = .ok (.bipush 28, 2) := by decide +kernel
theorem dX11_readRows_376 : decode cX11_readRows 376 = .ok (.invokevirtual 90, 3) := by decide +kernel
theorem dX11_readRows_379 : decode cX11_readRows 379 = .ok (.ireturn, 1) := by decide +kernel
theorem dX11_readRows_380 : decode cX11_readRows 380 = .ok (.aload_n 0, 1) := by decide +kernel
theorem dX11_readRows_381 : decode cX11_readRows 381 = .ok (.bipush 30, 2) := by decide +kernel
theorem dX11_readRows_383 : decode cX11_readRows 383 = .ok (.putfield 84, 3) := by decide +kernel
theorem dX11_readRows_386 : decode cX11_readRows 386 = .ok (.aload_n 0, 1) := by decide +kernel
theorem dX11_readRows_387 : decode cX11_readRows 387 = .ok (.iconst 4, 1) := by decide +kernel
theorem dX11_readRows_388 : decode cX11_readRows 388 = .ok (.invokevirtual 103, 3) := by decide +kernel
theorem dX11_readRows_391 : decode cX11_readRows 391 = .ok (.ifCond .ne 5, 3) := by decide +kernel
theorem dX11_readRows_394 : decode cX11_readRows 394 = .ok (.iconst 0, 1) := by decide +kernel
theorem dX11_readRows_395 : decode cX11_readRows 395 = .ok (.ireturn, 1) := by decide +kernel
theorem dX11_readRows_396 : decode cX11_readRows 396 = .ok (.aload_n 0, 1) := by decide +kernel
theorem dX11_readRows_397 : decode cX11_readRows 397 = .ok (.bipush 30, 2) := by decide +kernel
theorem dX11_readRows_399 : decode cX11_readRows 399 = .ok (.iconst 4, 1) := by decide +kernel
theorem dX11_readRows_400 : decode cX11_readRows 400 = .ok (.invokevirtual 183, 3) := by decide +kernel
theorem dX11_readRows_403 : decode cX11_readRows 403 = .ok (.lstore 8, 2) := by decide +kernel
theorem dX11_readRows_405 : decode cX11_readRows 405 = .ok (.lload 8, 2) := by decide +kernel
theorem dX11_readRows_407 : decode cX11_readRows 407 = .ok (.lconst 0, 1) := by decide +kernel
theorem dX11_readRows_408 : decode cX11_readRows 408 = .ok (.lcmp, 1) := by decide +kernel
theorem dX11_readRows_409 : decode cX11_readRows 409 = .ok (.ifCond .eq 45, 3) := by decide +kernel
theorem dX11_readRows_412 : decode cX11_readRows 412 = .ok (.iload 6, 2) := by decide +kernel
theorem dX11_readRows_414 : decode cX11_readRows 414 = .ok (.ifCond .ne 32, 3) := by decide +kernel
theorem dX11_readRows_417 : decode cX11_readRows 417 = .ok (.lload 8, 2) := by decide +kernel
theorem dX11_readRows_419 : decode cX11_readRows 419 = .ok (.lconst 1, 1) := by decide +kernel
theorem dX11_readRows_420 : decode cX11_readRows 420 = .ok (.lcmp, 1) := by decide +kernel
theorem dX11_readRows_421 : decode cX11_readRows 421 = .ok (.ifCond .ne 10, 3) := by decide +kernel
theorem dX11_readRows_424 : decode cX11_readRows 424 = .ok (.iload 7, 2) := by decide +kernel
theorem dX11_readRows_426 : decode cX11_readRows 426 = .ok (.bipush 8, 2) := by decide +kernel
theorem dX11_readRows_428 : decode cX11_readRows 428 = .ok (.if_icmp .eq 26, 3) := by decide +kernel
theorem dX11_readRows_431 : decode cX11_readRows 431 = .ok (.lload 8, 2) := by decide +kernel
theorem dX11_readRows_433 : decode cX11_readRows 433 = .ok (.ldc2_w 188, 3) := by decide +kernel
theorem dX11_readRows_436 : decode cX11_readRows 436 = .ok (.lcmp, 1) := by decide +kernel
theorem dX11_readRows_437 : decode cX11_readRows 437 = .ok (.ifCond .ne 9, 3) := by decide +kernel
theorem dX11_readRows_440 : decode cX11_readRows 440 = .ok (.iload 7, 2) := by decide +kernel
theorem dX11_readRows_442 : decode cX11_readRows 442 = .ok (.iconst 4, 1) := by decide +kernel
theorem dX11_readRows_443 : decode cX11_readRows 443 = .ok (.if_icmp .eq 11, 3) := by decide +kernel
theorem dX11_readRows_446 : decode cX11_readRows 446 = .ok (.aload_n 0, 1) := by decide +kernel
theorem dX11_readRows_447 : decode cX11_readRows 447 = .ok (.iconst 2, 1) := by decide +kernel
theorem dX11_readRows_448 : decode cX11_readRows 448 = .ok (.bipush 30, 2) := by decide +kernel
theorem dX11_readRows_450 : decode cX11_readRows 450 = .ok (.invokevirtual 90, 3) := by decide +kernel
theorem dX11_readRows_453 : decode cX11_readRows 453 = .ok (.ireturn, 1) := by decide +kernel
theorem dX11_readRows_454 : decode cX11_readRows 454 = .ok (.aload_n 0, 1) := by decide +kernel
theorem dX11_readRows_455 : decode cX11_readRows 455 = .ok (.bipush 34, 2) := by decide +kernel
theorem dX11_readRows_457 : decode cX11_readRows 457 = .ok (.putfield 84, 3) := by decide +kernel
theorem dX11_readRows_460 : decode cX11_readRows 460 = .ok (.aload_n 0, 1) := by decide +kernel
theorem dX11_readRows_461 : decode cX11_readRows 461 = .ok (.iconst 4, 1) := by decide +kernel
theorem dX11_readRows_462 : decode cX11_readRows 462 = .ok (.invokevirtual 103, 3) := by decide +kernel
theorem dX11_readRows_465 : decode cX11_readRows 465 = .ok (.ifCond .ne 5, 3) := by decide +kernel
theorem dX11_readRows_468 : decode cX11_readRows 468 = .ok (.iconst 0, 1) := by decide +kernel
theorem dX11_readRows_469 : decode cX11_readRows 469 = .ok (.ireturn, 1) := by decide +kernel
theorem dX11_readRows_470 : decode cX11_readRows 470 = .ok (.aload_n 0, 1) := by decide +kernel
theorem dX11_readRows_471 : decode cX11_readRows 471 = .ok (.bipush 34, 2) := by decide +kernel
theorem dX11_readRows_473 : decode cX11_readRows 473 = .ok (.iconst 4, 1) := by decide +kernel
theorem dX11_readRows_474 : decode cX11_readRows 474 = .ok (.invokevirtual 183, 3) := by decide +kernel
theorem dX11_readRows_477 : decode cX11_readRows 477 = .ok (.lstore 10, 2) := by decide +kernel
theorem dX11_readRows_479 : decode cX11_readRows 479 = .ok (.aload_n 0, 1) := by decide +kernel
theorem dX11_readRows_480 : decode cX11_readRows 480 = .ok (.bipush 38, 2) := by decide +kernel
theorem dX11_readRows_482 : decode cX11_readRows 482 = .ok (.putfield 84, 3) := by decide +kernel
theorem dX11_readRows_485 : decode cX11_readRows 485 = .ok (.aload_n 0, 1) := by decide +kernel
theorem dX11_readRows_486 : decode cX11_readRows 486 = .ok (.getfield 84, 3) := by decide +kernel
theorem dX11_readRows_489 : decode cX11_readRows 489 = .ok (.bipush 46, 2) := by decide +kernel
theorem dX11_readRows_491 : decode cX11_readRows 491 = .ok (.if_icmp .ge 26, 3) := by decide +kernel
theorem dX11_readRows_494 : decode cX11_readRows 494 = .ok (.aload_n 0, 1) := by decide +kernel
theorem dX11_readRows_495 : decode cX11_readRows 495 = .ok (.iconst 4, 1) := by decide +kernel
theorem dX11_readRows_496 : decode cX11_readRows 496 = .ok (.invokevirtual 103, 3) := by decide +kernel
theorem dX11_readRows_499 : decode cX11_readRows 499 = .ok (.ifCond .ne 5, 3) := by decide +kernel
theorem dX11_readRows_502 : decode cX11_readRows 502 = .ok (.iconst 0, 1) := by decide +kernel
theorem dX11_readRows_503 : decode cX11_readRows 503 = .ok (.ireturn, 1) := by decide +kernel
theorem dX11_readRows_504 : decode cX11_readRows 504 = .ok (.aload_n 0, 1) := by decide +kernel
theorem dX11_readRows_505 : decode cX11_readRows 505 = .ok (.dup, 1) := by decide +kernel
theorem dX11_readRows_506 : decode cX11_readRows 506 = .ok (.getfield 84, 3) := by decide +kernel
theorem dX11_readRows_509 : decode cX11_readRows 509 = .ok (.iconst 4, 1) := by decide +kernel
theorem dX11_readRows_510 : decode cX11_readRows 510 = .ok (.iadd, 1) := by decide +kernel
theorem dX11_readRows_511 : decode cX11_readRows 511 = .ok (.putfield 84, 3) := by decide +kernel
theorem dX11_readRows_514 : decode cX11_readRows 514 = .ok (.goto (-29), 3) := by decide +kernel
theorem dX11_readRows_517 : decode cX11_readRows 517 = .ok (.aload_n 0, 1) := by decide +kernel
theorem dX11_readRows_518 : decode cX11_readRows 518 = .ok (.iconst 4, 1) := by decide +kernel
theorem dX11_readRows_519 : decode cX11_readRows 519 = .ok (.invokevirtual 103, 3) := by decide +kernel
theorem dX11_readRows_522 : decode cX11_readRows 522 = .ok (.ifCond .ne 5, 3) := by decide +kernel
theorem dX11_readRows_525 : decode cX11_readRows 525 = .ok (.iconst 0, 1) := by decide +kernel
theorem dX11_readRows_526 : decode cX11_readRows 526 = .ok (.ireturn, 1) := by decide +kernel
theorem dX11_readRows_527 : decode cX11_readRows 527 = .ok (.aload_n 0, 1) := by decide +kernel
theorem dX11_readRows_528 : decode cX11_readRows 528 = .ok (.bipush 46, 2) := by decide +kernel
theorem dX11_readRows_530 : decode cX11_readRows 530 = .ok (.iconst 4, 1) := by decide +kernel
theorem dX11_readRows_531 : decode cX11_readRows 531 = .ok (.invokevirtual 183, 3) := by decide +kernel
theorem dX11_readRows_534 : decode cX11_readRows 534 = .ok (.lstore 12, 2) := by decide +kernel
theorem dX11_readRows_536 : decode cX11_readRows 536 = .ok (.iload 7, 2) := by decide +kernel
theorem dX11_readRows_538 : decode cX11_readRows 538 = .ok (.bipush 8, 2) := by decide +kernel
theorem dX11_readRows_540 : decode cX11_readRows 540 = .ok (.if_icmp .le 13, 3) := by decide +kernel
theorem dX11_readRows_543 : decode cX11_readRows 543 = .ok (.lload 12, 2) := by decide +kernel
theorem dX11_readRows_545 : decode cX11_readRows 545 = .ok (.lconst 0, 1) := by decide +kernel
theorem dX11_readRows_546 : decode cX11_readRows 546 = .ok (.lcmp, 1) := by decide +kernel
theorem dX11_readRows_547 : decode cX11_readRows 547 = .ok (.ifCond .eq 24, 3) := by decide +kernel
theorem dX11_readRows_550 : decode cX11_readRows 550 = .ok (.goto 13, 3) := by decide +kernel
theorem dX11_readRows_553 : decode cX11_readRows 553 = .ok (.lload 12, 2) := by decide +kernel
theorem dX11_readRows_555 : decode cX11_readRows 555 = .ok (.lconst 1, 1) := by decide +kernel
theorem dX11_readRows_556 : decode cX11_readRows 556 = .ok (.iload 7, 2) := by decide +kernel
theorem dX11_readRows_558 : decode cX11_readRows 558 = .ok (.lshl, 1) := by decide +kernel
theorem dX11_readRows_559 : decode cX11_readRows 559 = .ok (.lcmp, 1) := by decide +kernel
theorem dX11_readRows_560 : decode cX11_readRows 560 = .ok (.ifCond .le 11, 3) := by decide +kernel
theorem dX11_readRows_563 : decode cX11_readRows 563 = .ok (.aload_n 0, 1) := by decide +kernel
theorem dX11_readRows_564 : decode cX11_readRows 564 = .ok (.iconst 2, 1) := by decide +kernel
theorem dX11_readRows_565 : decode cX11_readRows 565 = .ok (.bipush 46, 2) := by decide +kernel
theorem dX11_readRows_567 : decode cX11_readRows 567 = .ok (.invokevirtual 90, 3) := by decide +kernel
theorem dX11_readRows_570 : decode cX11_readRows 570 = .ok (.ireturn, 1) := by decide +kernel
theorem dX11_readRows_571 : decode cX11_readRows 571 = .ok (.iload 7, 2) := by decide +kernel
theorem dX11_readRows_573 : decode cX11_readRows 573 = .ok (.bipush 8, 2) := by decide +kernel
theorem dX11_readRows_575 : decode cX11_readRows 575 = .ok (.if_icmp .gt 16, 3) := by decide +kernel
theorem dX11_readRows_578 : decode cX11_readRows 578 = .ok (.lload 12, 2) := by decide +kernel
theorem dX11_readRows_580 : decode cX11_readRows 580 = .ok (.lconst 0, 1) := by decide +kernel
theorem dX11_readRows_581 : decode cX11_readRows 581 = .ok (.lcmp, 1) := by decide +kernel
theorem dX11_readRows_582 : decode cX11_readRows 582 = .ok (.ifCond .ne 9, 3) := by decide +kernel
theorem dX11_readRows_585 : decode cX11_readRows 585 = .ok (.lconst 1, 1) := by decide +kernel
theorem dX11_readRows_586 : decode cX11_readRows 586 = .ok (.iload 7, 2) := by decide +kernel
theorem dX11_readRows_588 : decode cX11_readRows 588 = .ok (.lshl, 1) := by decide +kernel
theorem dX11_readRows_589 : decode cX11_readRows 589 = .ok (.lstore 12, 2) := by decide +kernel
theorem dX11_readRows_591 : decode cX11_readRows 591 = .ok (.aload_n 0, 1) := by decide +kernel
theorem dX11_readRows_592 : decode cX11_readRows 592 = .ok (.bipush 50, 2) := by decide +kernel
theorem dX11_readRows_594 : decode cX11_readRows 594 = .ok (.putfield 84, 3) := by decide +kernel
theorem dX11_readRows_597 : decode cX11_readRows 597 = .ok (.aload_n 0, 1) := by decide +kernel
theorem dX11_readRows_598 : decode cX11_readRows 598 = .ok (.iconst 4, 1) := by decide +kernel
theorem dX11_readRows_599 : decode cX11_readRows 599 = .ok (.invokevirtual 103, 3) := by decide +kernel
theorem dX11_readRows_602 : decode cX11_readRows 602 = .ok (.ifCond .ne 5, 3) := by decide +kernel
theorem dX11_readRows_605 : decode cX11_readRows 605 = .ok (.iconst 0, 1) := by decide +kernel
theorem dX11_readRows_606 : decode cX11_readRows 606 = .ok (.ireturn, 1) := by decide +kernel
theorem dX11_readRows_607 : decode cX11_readRows 607 = .ok (.lload_n 1, 1) := by decide +kernel
theorem dX11_readRows_608 : decode cX11_readRows 608 = .ok (.ldc2_w 190, 3) := by decide +kernel
theorem dX11_readRows_611 : decode cX11_readRows 611 = .ok (.ldc2_w 192, 3) := by decide +kernel
theorem dX11_readRows_614 : decode cX11_readRows 614 = .ok (.lload 12, 2) := by decide +kernel
theorem dX11_readRows_616 : decode cX11_readRows 616 = .ok (.lmul, 1) := by decide +kernel
theorem dX11_readRows_617 : decode cX11_readRows 617 = .ok (.ladd, 1) := by decide +kernel
theorem dX11_readRows_618 : decode cX11_readRows 618 = .ok (.lcmp, 1) := by decide +kernel
theorem dX11_readRows_619 : decode cX11_readRows 619 = .ok (.ifCond .lt 13, 3) := by decide +kernel
theorem dX11_readRows_622 : decode cX11_readRows 622 = .ok (.lload_n 1, 1) := by decide +kernel
theorem dX11_readRows_623 : decode cX11_readRows 623 = .ok (.aload_n 0, 1) := by decide +kernel
theorem dX11_readRows_624 : decode cX11_readRows 624 = .ok (.getfield 87, 3) := by decide +kernel
theorem dX11_readRows_627 : decode cX11_readRows 627 = .ok (.i2l, 1) := by decide +kernel
theorem dX11_readRows_628 : decode cX11_readRows 628 = .ok (.lcmp, 1) := by decide +kernel
theorem dX11_readRows_629 : decode cX11_readRows 629 = .ok (.ifCond .le 11, 3) := by decide +kernel
theorem dX11_readRows_632 : decode cX11_readRows 632 = .ok (.aload_n 0, 1) := by decide +kernel
theorem dX11_readRows_633 : decode cX11_readRows 633 = .ok (.iconst 2, 1) := by decide +kernel
theorem dX11_readRows_634 : decode cX11_readRows 634 = .ok (.bipush 10, 2) := by decide +kernel
theorem dX11_readRows_636 : decode cX11_readRows 636 = .ok (.invokevirtual 90, 3) := by decide +kernel
theorem dX11_readRows_639 : decode cX11_readRows 639 = .ok (.ireturn, 1) := by decide +kernel
theorem dX11_readRows_640 : decode cX11_readRows 640 = .ok (.lload 10, 2) := by decide +kernel
theorem dX11_readRows_642 : decode cX11_readRows 642 = .ok (.aload_n 0, 1) := by decide +kernel
theorem dX11_readRows_643 : decode cX11_readRows 643 = .ok (.getfield 87, 3) := by decide +kernel
theorem dX11_readRows_646 : decode cX11_readRows 646 = .ok (.i2l, 1) := by decide +kernel
theorem dX11_readRows_647 : decode cX11_readRows 647 = .ok (.lload_n 1, 1) := by decide +kernel
theorem dX11_readRows_648 : decode cX11_readRows 648 = .ok (.lsub, 1) := by decide +kernel
theorem dX11_readRows_649 : decode cX11_readRows 649 = .ok (.lcmp, 1) := by decide +kernel
theorem dX11_readRows_650 : decode cX11_readRows 650 = .ok (.ifCond .eq 25, 3) := by decide +kernel
theorem dX11_readRows_653 : decode cX11_readRows 653 = .ok (.lload 8, 2) := by decide +kernel
theorem dX11_readRows_655 : decode cX11_readRows 655 = .ok (.lconst 0, 1) := by decide +kernel
theorem dX11_readRows_656 : decode cX11_readRows 656 = .ok (.lcmp, 1) := by decide +kernel
theorem dX11_readRows_657 : decode cX11_readRows 657 = .ok (.ifCond .ne 10, 3) := by decide +kernel
theorem dX11_readRows_660 : decode cX11_readRows 660 = .ok (.lload 10, 2) := by decide +kernel
theorem dX11_readRows_662 : decode cX11_readRows 662 = .ok (.lconst 0, 1) := by decide +kernel
theorem dX11_readRows_663 : decode cX11_readRows 663 = .ok (.lcmp, 1) := by decide +kernel
theorem dX11_readRows_664 : decode cX11_readRows 664 = .ok (.ifCond .eq 11, 3) := by decide +kernel
theorem dX11_readRows_667 : decode cX11_readRows 667 = .ok (.aload_n 0, 1) := by decide +kernel
theorem dX11_readRows_668 : decode cX11_readRows 668 = .ok (.iconst 2, 1) := by decide +kernel
theorem dX11_readRows_669 : decode cX11_readRows 669 = .ok (.bipush 34, 2) := by decide +kernel
theorem dX11_readRows_671 : decode cX11_readRows 671 = .ok (.invokevirtual 90, 3) := by decide +kernel
theorem dX11_readRows_674 : decode cX11_readRows 674 = .ok (.ireturn, 1) := by decide +kernel
theorem dX11_readRows_675 : decode cX11_readRows 675 = .ok (.iconst 0, 1) := by decide +kernel
theorem dX11_readRows_676 : decode cX11_readRows 676 = .ok (.istore 14, 2) := by decide +kernel
theorem dX11_readRows_678 : decode cX11_readRows 678 = .ok (.iload 14, 2) := by decide +kernel
theorem dX11_readRows_680 : decode cX11_readRows 680 = .ok (.i2l, 1) := by decide +kernel
theorem dX11_readRows_681 : decode cX11_readRows 681 = .ok (.lload 12, 2) := by decide +kernel
theorem dX11_readRows_683 : decode cX11_readRows 683 = .ok (.lcmp, 1) := by decide +kernel
theorem dX11_readRows_684 : decode cX11_readRows 684 = .ok (.ifCond .ge 53, 3) := by decide +kernel
theorem dX11_readRows_687 : decode cX11_readRows 687 = .ok (.bipush 54, 2) := by decide +kernel
theorem dX11_readRows_689 : decode cX11_readRows 689 = .ok (.iconst 4, 1) := by decide +kernel
theorem dX11_readRows_690 : decode cX11_readRows 690 = .ok (.iload 14, 2) := by decide +kernel
theorem dX11_readRows_692 : decode cX11_readRows 692 = .ok (.imul, 1) := by decide +kernel
theorem dX11_readRows_693 : decode cX11_readRows 693 = .ok (.iadd, 1) := by decide +kernel
theorem dX11_readRows_694 : decode cX11_readRows 694 = .ok (.istore 15, 2) := by decide +kernel
theorem dX11_readRows_696 : decode cX11_readRows 696 = .ok (.aload_n 0, 1) := by decide +kernel
theorem dX11_readRows_697 : decode cX11_readRows 697 = .ok (.getfield 49, 3) := by decide +kernel
theorem dX11_readRows_700 : decode cX11_readRows 700 = .ok (.iload 14, 2) := by decide +kernel
theorem dX11_readRows_702 : decode cX11_readRows 702 = .ok (.aload_n 0, 1) := by decide +kernel
theorem dX11_readRows_703 : decode cX11_readRows 703 = .ok (.iload 15, 2) := by decide +kernel
theorem dX11_readRows_705 : decode cX11_readRows 705 = .ok (.iconst 2, 1) := by decide +kernel
theorem dX11_readRows_706 : decode cX11_readRows 706 = .ok (.iadd, 1) := by decide +kernel
theorem dX11_readRows_707 : decode cX11_readRows 707 = .ok (.invokevirtual 99, 3) := by decide +kernel
theorem dX11_readRows_710 : decode cX11_readRows 710 = .ok (.aload_n 0, 1) := by decide +kernel
theorem dX11_readRows_711 : decode cX11_readRows 711 = .ok (.iload 15, 2) := by decide +kernel
theorem dX11_readRows_713 : decode cX11_readRows 713 = .ok (.iconst 1, 1) := by decide +kernel
theorem dX11_readRows_714 : decode cX11_readRows 714 = .ok (.iadd, 1) := by decide +kernel
theorem dX11_readRows_715 : decode cX11_readRows 715 = .ok (.invokevirtual 99, 3) := by decide +kernel
theorem dX11_readRows_718 : decode cX11_readRows 718 = .ok (.aload_n 0, 1) := by decide +kernel
theorem dX11_readRows_719 : decode cX11_readRows 719 = .ok (.iload 15, 2) := by decide +kernel
theorem dX11_readRows_721 : decode cX11_readRows 721 = .ok (.invokevirtual 99, 3) := by decide +kernel
theorem dX11_readRows_724 : decode cX11_readRows 724 = .ok (.sipush 255, 3) := by decide +kernel
theorem dX11_readRows_727 : decode cX11_readRows 727 = .ok (.invokestatic 115, 3) := by decide +kernel
theorem dX11_readRows_730 : decode cX11_readRows 730 = .ok (.iastore, 1) := by decide +kernel
theorem dX11_readRows_731 : decode cX11_readRows 731 = .ok (.iinc 14 1, 3) := by decide +kernel
theorem dX11_readRows_734 : decode cX11_readRows 734 = .ok (.goto (-56), 3) := by decide +kernel
theorem dX11_readRows_737 : decode cX11_readRows 737 = .ok (.aload_n 0, 1) := by decide +kernel
theorem dX11_readRows_738 : decode cX11_readRows 738 = .ok (.lload_n 1, 1) := by decide +kernel
theorem dX11_readRows_739 : decode cX11_readRows 739 = .ok (.l2i, 1) := by decide +kernel
theorem dX11_readRows_740 : decode cX11_readRows 740 = .ok (.putfield 84, 3) := by decide +kernel
theorem dX11_readRows_743 : decode cX11_readRows 743 = .ok (.aload_n 0, 1) := by decide +kernel
theorem dX11_readRows_744 : decode cX11_readRows 744 = .ok (.iload 7, 2) := by decide +kernel
theorem dX11_readRows_746 : decode cX11_readRows 746 = .ok (.putfield 130, 3) := by decide +kernel
theorem dX11_readRows_749 : decode cX11_readRows 749 = .ok (.aload_n 0, 1) := by decide +kernel
theorem dX11_readRows_750 : decode cX11_readRows 750 = .ok (.lload 8, 2) := by decide +kernel
theorem dX11_readRows_752 : decode cX11_readRows 752 = .ok (.l2i, 1) := by decide +kernel
theorem dX11_readRows_753 : decode cX11_readRows 753 = .ok (.putfield 133, 3) := by decide +kernel
theorem dX11_readRows_756 : decode cX11_readRows 756 = .ok (.aload_n 0, 1) := by decide +kernel
theorem dX11_readRows_757 : decode cX11_readRows 757 = .ok (.lload 12, 2) := by decide +kernel
theorem dX11_readRows_759 : decode cX11_readRows 759 = .ok (.l2i, 1) := by decide +kernel
theorem dX11_readRows_760 : decode cX11_readRows 760 = .ok (.putfield 136, 3) := by decide +kernel
theorem dX11_readRows_763 : decode cX11_readRows 763 = .ok (.lload 8, 2) := by decide +kernel
theorem dX11_readRows_765 : decode cX11_readRows 765 = .ok (.lconst 0, 1) := by decide +kernel
theorem dX11_readRows_766 : decode cX11_readRows 766 = .ok (.lcmp, 1) := by decide +kernel
theorem dX11_readRows_767 : decode cX11_readRows 767 = .ok (.ifCond .ne 12, 3) := by decide +kernel
theorem dX11_readRows_770 : decode cX11_readRows 770 = .ok (.aload_n 0, 1) := by decide +kernel
theorem dX11_readRows_771 : decode cX11_readRows 771 = .ok (.iload 6, 2) := by decide +kernel
theorem dX11_readRows_773 : decode cX11_readRows 773 = .ok (.invokevirtual 194, 3) := by decide +kernel
theorem dX11_readRows_776 : decode cX11_readRows 776 = .ok (.goto 7, 3) := by decide +kernel
theorem dX11_readRows_779 : decode cX11_readRows 779 = .ok (.aload_n 0, 1) := by decide +kernel
theorem dX11_readRows_780 : decode cX11_readRows 780 = .ok (.invokevirtual 198, 3) := by decide +kernel
theorem dX11_readRows_783 : decode cX11_readRows 783 = .ok (.ireturn, 1) := by decide +kernel
theorem dX11_readPlainRows_0 : decode cX11_readPlainRows 0 = .ok (.aload_n 0, 1) := by decide +kernel
theorem dX11_readPlainRows_1 : decode cX11_readPlainRows 1 = .ok (.getfield 109, 3) := by decide +kernel
theorem dX11_readPlainRows_4 : decode cX11_readPlainRows 4 = .ok (.aload_n 0, 1) := by decide +kernel
theorem dX11_readPlainRows_5 : decode cX11_readPlainRows 5 = .ok (.getfield 130, 3) := by decide +kernel
theorem dX11_readPlainRows_8 : decode cX11_readPlainRows 8 = .ok (.imul, 1) := by decide +kernel
theorem dX11_readPlainRows_9 : decode cX11_readPlainRows 9 = .ok (.bipush 31, 2) := by decide +kernel
theorem dX11_readPlainRows_11 : decode cX11_readPlainRows 11 = .ok (.iadd, 1) := by decide +kernel
theorem dX11_readPlainRows_12 : decode cX11_readPlainRows 12 = .ok (.bipush 32, 2) := by decide +kernel
theorem dX11_readPlainRows_14 : decode cX11_readPlainRows 14 = .ok (.idiv, 1) := by decide +kernel
theorem dX11_readPlainRows_15 : decode cX11_readPlainRows 15 = .ok (.iconst 4, 1) := by decide +kernel
theorem dX11_readPlainRows_16 : decode cX11_readPlainRows 16 = .ok (.imul, 1) := by decide +kernel
theorem dX11_readPlainRows_17 : decode cX11_readPlainRows 17 = .ok (.istore_n 2, 1) := by decide +kernel
theorem dX11_readPlainRows_18 : decode cX11_readPlainRows 18 = .ok (.iconst 0, 1) := by decide +kernel
theorem dX11_readPlainRows_19 : decode cX11_readPlainRows 19 = .ok (.istore_n 3, 1) := by decide +kernel
theorem dX11_readPlainRows_20 : decode cX11_readPlainRows 20 = .ok (.iload_n 3, 1) := by decide +kernel
theorem dX11_readPlainRows_21 : decode cX11_readPlainRows 21 = .ok (.aload_n 0, 1) := by decide +kernel
theorem dX11_readPlainRows_22 : decode cX11_readPlainRows 22 = .ok (.getfield 112, 3) := by decide +kernel
theorem dX11_readPlainRows_25 : decode cX11_readPlainRows 25 = .ok (.if_icmp .ge 349, 3) := by decide +kernel
theorem dX11_readPlainRows_28 : decode cX11_readPlainRows 28 = .ok (.iload_n 1, 1) := by decide +kernel
theorem dX11_readPlainRows_29 : decode cX11_readPlainRows 29 = .ok (.ifCond .eq 7, 3) := by decide +kernel
theorem dX11_readPlainRows_32 : decode cX11_readPlainRows 32 = .ok (.iload_n 3, 1) := by decide +kernel
theorem dX11_readPlainRows_33 : decode cX11_readPlainRows 33 = .ok (.goto 11, 3) := by decide +kernel
theorem dX11_readPlainRows_36 : decode cX11_readPlainRows 36 = .ok (.aload_n 0, 1) := by decide +kernel
theorem dX11_readPlainRows_37 : decode cX11_readPlainRows 37 = .ok (.getfield 112, 3) := by decide +kernel
theorem dX11_readPlainRows_40 : decode cX11_readPlainRows 40 = .ok (.iconst 1, 1) := by decide +kernel
theorem dX11_readPlainRows_41 : decode cX11_readPlainRows 41 = .ok (.isub, 1) := by decide +kernel
theorem dX11_readPlainRows_42 : decode cX11_readPlainRows 42 = .ok (.iload_n 3, 1) := by decide +kernel
theorem dX11_readPlainRows_43 : decode cX11_readPlainRows 43 = .ok (.isub, 1) := by decide +kernel
theorem dX11_readPlainRows_44 : decode cX11_readPlainRows 44 = .ok (.istore 4, 2) := by decide +kernel
theorem dX11_readPlainRows_46 : decode cX11_readPlainRows 46 = .ok (.aload_n 0, 1) := by decide +kernel
theorem dX11_readPlainRows_47 : decode cX11_readPlainRows 47 = .ok (.getfield 84, 3) := by decide +kernel
theorem dX11_readPlainRows_50 : decode cX11_readPlainRows 50 = .ok (.istore 5, 2) := by decide +kernel
theorem dX11_readPlainRows_52 : decode cX11_readPlainRows 52 = .ok (.iconst 0, 1) := by decide +kernel
theorem dX11_readPlainRows_53 : decode cX11_readPlainRows 53 = .ok (.istore 6, 2) := by decide +kernel
theorem dX11_readPlainRows_55 : decode cX11_readPlainRows 55 = .ok (.iload 6, 2) := by decide +kernel
theorem dX11_readPlainRows_57 : decode cX11_readPlainRows 57 = .ok (.aload_n 0, 1) := by decide +kernel
theorem dX11_readPlainRows_58 : decode cX11_readPlainRows 58 = .ok (.getfield 109, 3) := by decide +kernel
theorem dX11_readPlainRows_61 : decode cX11_readPlainRows 61 = .ok (.if_icmp .ge 274, 3) := by decide +kernel
theorem dX11_readPlainRows_64 : decode cX11_readPlainRows 64 = .ok (.aload_n 0, 1) := by decide +kernel
theorem dX11_readPlainRows_65 : decode cX11_readPlainRows 65 = .ok (.getfield 109, 3) := by decide +kernel
theorem dX11_readPlainRows_68 : decode cX11_readPlainRows 68 = .ok (.iload 4, 2) := by decide +kernel
theorem dX11_readPlainRows_70 : decode cX11_readPlainRows 70 = .ok (.imul, 1) := by decide +kernel
theorem dX11_readPlainRows_71 : decode cX11_readPlainRows 71 = .ok (.iload 6, 2) := by decide +kernel
theorem dX11_readPlainRows_73 : decode cX11_readPlainRows 73 = .ok (.iadd, 1) := by decide +kernel
theorem dX11_readPlainRows_74 : decode cX11_readPlainRows 74 = .ok (.istore 7, 2) := by decide +kernel
theorem dX11_readPlainRows_76 : decode cX11_readPlainRows 76 = .ok (.aload_n 0, 1) := by decide +kernel
theorem dX11_readPlainRows_77 : decode cX11_readPlainRows 77 = .ok (.getfield 130, 3) := by decide +kernel
theorem dX11_readPlainRows_80 : decode cX11_readPlainRows 80 = .ok (.bipush 8, 2) := by decide +kernel
theorem dX11_readPlainRows_82 : decode cX11_readPlainRows 82 = .ok (.if_icmp .gt 119, 3) := by decide +kernel
theorem dX11_readPlainRows_85 : decode cX11_readPlainRows 85 = .ok (.bipush 8, 2) := by decide +kernel
theorem dX11_readPlainRows_87 : decode cX11_readPlainRows 87 = .ok (.aload_n 0, 1) := by decide +kernel
theorem dX11_readPlainRows_88 : decode cX11_readPlainRows 88 = .ok (.getfield 130, 3) := by decide +kernel
theorem dX11_readPlainRows_91 : decode cX11_readPlainRows 91 = .ok (.idiv, 1) := by decide +kernel
theorem dX11_readPlainRows_92 : decode cX11_readPlainRows 92 = .ok (.istore 8, 2) := by decide +kernel
theorem dX11_readPlainRows_94 : decode cX11_readPlainRows 94 = .ok (.iload 6, 2) := by decide +kernel
theorem dX11_readPlainRows_96 : decode cX11_readPlainRows 96 = .ok (.iload 8, 2) := by decide +kernel
theorem dX11_readPlainRows_98 : decode cX11_readPlainRows 98 = .ok (.irem, 1) := by decide +kernel
theorem dX11_readPlainRows_99 : decode cX11_readPlainRows 99 = .ok (.ifCond .ne 23, 3) := by decide +kernel
theorem dX11_readPlainRows_102 : decode cX11_readPlainRows 102 = .ok (.aload_n 0, 1) := by decide +kernel
theorem dX11_readPlainRows_103 : decode cX11_readPlainRows 103 = .ok (.iconst 1, 1) := by decide +kernel
theorem dX11_readPlainRows_104 : decode cX11_readPlainRows 104 = .ok (.invokevirtual 103, 3) := by decide +kernel
theorem dX11_readPlainRows_107 : decode cX11_readPlainRows 107 = .ok (.ifCond .ne 5, 3) := by decide +kernel
theorem dX11_readPlainRows_110 : decode cX11_readPlainRows 110 = .ok (.iconst 0, 1) := by decide +kernel
theorem dX11_readPlainRows_111 : decode cX11_readPlainRows 111 = .ok (.ireturn, 1) := by decide +kernel
theorem dX11_readPlainRows_112 : decode cX11_readPlainRows 112 = .ok (.aload_n 0, 1) := by decide +kernel
theorem dX11_readPlainRows_113 : decode cX11_readPlainRows 113 = .ok (.dup, 1) := by decide +kernel
theorem dX11_readPlainRows_114 : decode cX11_readPlainRows 114 = .ok (.getfield 84, 3) := by decide +kernel
theorem dX11_readPlainRows_117 : decode cX11_readPlainRows 117 = .ok (.iconst 1, 1) := by decide +kernel
theorem dX11_readPlainRows_118 : decode cX11_readPlainRows 118 = .ok (.iadd, 1) := by decide +kernel
theorem dX11_readPlainRows_119 : decode cX11_readPlainRows 119 = .ok (.putfield 84, 3) := by decide +kernel
theorem dX11_readPlainRows_122 : decode cX11_readPlainRows 122 = .ok (.aload_n 0, 1) := by decide +kernel
theorem dX11_readPlainRows_123 : decode cX11_readPlainRows 123 = .ok (.aload_n 0, 1) := by decide +kernel
theorem dX11_readPlainRows_124 : decode cX11_readPlainRows 124 = .ok (.getfield 84, 3) := by decide +kernel
theorem dX11_readPlainRows_127 : decode cX11_readPlainRows 127 = .ok (.iconst 1, 1) := by decide +kernel
theorem dX11_readPlainRows_128 : decode cX11_readPlainRows 128 = .ok (.isub, 1) := by decide +kernel
theorem dX11_readPlainRows_129 : decode cX11_readPlainRows 129 = .ok (.invokevirtual 99, 3) := by decide +kernel
theorem dX11_readPlainRows_132 : decode cX11_readPlainRows 132 = .ok (.bipush 8, 2) := by decide +kernel
theorem dX11_readPlainRows_134 : decode cX11_readPlainRows 134 = .ok (.aload_n 0, 1) := by decide +kernel
theorem dX11_readPlainRows_135 : decode cX11_readPlainRows 135 = .ok (.getfield 130, 3) := by decide +kernel
theorem dX11_readPlainRows_138 : decode cX11_readPlainRows 138 = .ok (.isub, 1) := by decide +kernel
theorem dX11_readPlainRows_139 : decode cX11_readPlainRows 139 = .ok (.iload 6, 2) := by decide +kernel
theorem dX11_readPlainRows_141 : decode cX11_readPlainRows 141 = .ok (.iload 8, 2) := by decide +kernel
theorem dX11_readPlainRows_143 : decode cX11_readPlainRows 143 = .ok (.irem, 1) := by decide +kernel
theorem dX11_readPlainRows_144 : decode cX11_readPlainRows 144 = .ok (.aload_n 0, 1) := by decide +kernel
theorem dX11_readPlainRows_145 : decode cX11_readPlainRows 145 = .ok (.getfield 130, 3) := by decide +kernel
theorem dX11_readPlainRows_148 : decode cX11_readPlainRows 148 = .ok (.imul, 1) := by decide +kernel
theorem dX11_readPlainRows_149 : decode cX11_readPlainRows 149 = .ok (.isub, 1) := by decide +kernel
theorem dX11_readPlainRows_150 : decode cX11_readPlainRows 150 = .ok (.ishr, 1) := by decide +kernel
theorem dX11_readPlainRows_151 : decode cX11_readPlainRows 151 = .ok (.iconst 1, 1) := by decide +kernel
theorem dX11_readPlainRows_152 : decode cX11_readPlainRows 152 = .ok (.aload_n 0, 1) := by decide +kernel
theorem dX11_readPlainRows_153 : decode cX11_readPlainRows 153 = .ok (.getfield 130, 3) := by decide +kernel
theorem dX11_readPlainRows_156 : decode cX11_readPlainRows 156 = .ok (.ishl, 1) := by decide +kernel
theorem dX11_readPlainRows_157 : decode cX11_readPlainRows 157 = .ok (.iconst 1, 1) := by decide +kernel
theorem dX11_readPlainRows_158 : decode cX11_readPlainRows 158 = .ok (.isub, 1) := by decide +kernel
theorem dX11_readPlainRows_159 : decode cX11_readPlainRows 159 = .ok (.iand, 1) := by decide +kernel
theorem dX11_readPlainRows_160 : decode cX11_readPlainRows 160 = .ok (.istore 9, 2) := by decide +kernel
theorem dX11_readPlainRows_162 : decode cX11_readPlainRows 162 = .ok (.iload 9, 2) := by decide +kernel
theorem dX11_readPlainRows_164 : decode cX11_readPlainRows 164 = .ok (.aload_n 0, 1) := by decide +kernel
theorem dX11_readPlainRows_165 : decode cX11_readPlainRows 165 = .ok (.getfield 136, 3) := by decide +kernel
theorem dX11_readPlainRows_168 : decode cX11_readPlainRows 168 = .ok (.if_icmp .lt 16, 3) := by decide +kernel
theorem dX11_readPlainRows_171 : decode cX11_readPlainRows 171 = .ok (.aload_n 0, 1) := by decide +kernel
theorem dX11_readPlainRows_172 : decode cX11_readPlainRows 172 = .ok (.bipush 6, 2) := by decide +kernel
theorem dX11_readPlainRows_174 : decode cX11_readPlainRows 174 = .ok (.aload_n 0, 1) := by decide +kernel
theorem dX11_readPlainRows_175 : decode cX11_readPlainRows 175 = .ok (.getfield 84, 3) := by decide +kernel
theorem dX11_readPlainRows_178 : decode cX11_readPlainRows 178 = .ok (.iconst 1, 1) := by decide +kernel
theorem dX11_readPlainRows_179 : decode cX11_readPlainRows 179 = .ok (.isub, 1) := by decide +kernel
theorem dX11_readPlainRows_180 : decode cX11_readPlainRows 180 = .ok (.invokevirtual 90, 3) := by decide +kernel
theorem dX11_readPlainRows_183 : decode cX11_readPlainRows 183 = .ok (.ireturn, 1) := by decide +kernel
theorem dX11_readPlainRows_184 : decode cX11_readPlainRows 184 = .ok (.aload_n 0, 1) := by decide +kernel
theorem dX11_readPlainRows_185 : decode cX11_readPlainRows 185 = .ok (.getfield 27, 3) := by decide +kernel
theorem dX11_readPlainRows_188 : decode cX11_readPlainRows 188 = .ok (.iload 7, 2) := by decide +kernel
theorem dX11_readPlainRows_190 : decode cX11_readPlainRows 190 = .ok (.aload_n 0, 1) := by decide +kernel
theorem dX11_readPlainRows_191 : decode cX11_readPlainRows 191 = .ok (.getfield 49, 3) := by decide +kernel
theorem dX11_readPlainRows_194 : decode cX11_readPlainRows 194 = .ok (.iload 9, 2) := by decide +kernel
theorem dX11_readPlainRows_196 : decode cX11_readPlainRows 196 = .ok (.iaload, 1) := by decide +kernel
theorem dX11_readPlainRows_197 : decode cX11_readPlainRows 197 = .ok (.iastore, 1) := by decide +kernel
theorem dX11_readPlainRows_198 : decode cX11_readPlainRows 198 = .ok (.goto 131, 3) := by decide +kernel
theorem dX11_readPlainRows_201 : decode cX11_readPlainRows 201 = .ok (.aload_n 0, 1) := by decide +kernel
theorem dX11_readPlainRows_202 : decode cX11_readPlainRows 202 = .ok (.getfield 130, 3) := by decide +kernel
theorem dX11_readPlainRows_205 : decode cX11_readPlainRows 205 = .ok (.bipush 8, 2) := by decide +kernel
theorem dX11_readPlainRows_207 : decode cX11_readPlainRows 207 = .ok (.idiv, 1) := by decide +kernel
theorem dX11_readPlainRows_208 : decode cX11_readPlainRows 208 = .ok (.istore 8, 2) := by decide +kernel
theorem dX11_readPlainRows_210 : decode cX11_readPlainRows 210 = .ok (.aload_n 0, 1) := by decide +kernel
theorem dX11_readPlainRows_211 : decode cX11_readPlainRows 211 = .ok (.iload 8, 2) := by decide +kernel
theorem dX11_readPlainRows_213 : decode cX11_readPlainRows 213 = .ok (.invokevirtual 103, 3) := by decide +kernel
theorem dX11_readPlainRows_216 : decode cX11_readPlainRows 216 = .ok (.ifCond .ne 5, 3) := by decide +kernel
theorem dX11_readPlainRows_219 : decode cX11_readPlainRows 219 = .ok (.iconst 0, 1) := by decide +kernel
theorem dX11_readPlainRows_220 : decode cX11_readPlainRows 220 = .ok (.ireturn, 1) := by decide +kernel
theorem dX11_readPlainRows_221 : decode cX11_readPlainRows 221 = .ok (.aload_n 0, 1) := by decide +kernel
theorem dX11_readPlainRows_222 : decode cX11_readPlainRows 222 = .ok (.aload_n 0, 1) := by decide +kernel
theorem dX11_readPlainRows_223 : decode cX11_readPlainRows 223 = .ok (.getfield 84, 3) := by decide +kernel
theorem dX11_readPlainRows_226 : decode cX11_readPlainRows 226 = .ok (.iconst 2, 1) := by decide +kernel
theorem dX11_readPlainRows_227 : decode cX11_readPlainRows 227 = .ok (.invokevirtual 183, 3) := by decide +kernel
theorem dX11_readPlainRows_230 : decode cX11_readPlainRows 230 = .ok (.l2i, 1) := by decide +kernel
theorem dX11_readPlainRows_231 : decode cX11_readPlainRows 231 = .ok (.istore 9, 2) := by decide +kernel
theorem dX11_readPlainRows_233 : decode cX11_readPlainRows 233 = .ok (.aload_n 0, 1) := by decide +kernel
theorem dX11_readPlainRows_234 : decode cX11_readPlainRows 234 = .ok (.getfield 27, 3) := by decide +kernel
theorem dX11_readPlainRows_237 : decode cX11_readPlainRows 237 = .ok (.iload 7, 2) := by decide +kernel
theorem dX11_readPlainRows_239 : decode cX11_readPlainRows 239 = .ok (.iload 8, 2) := by decide +kernel
theorem dX11_readPlainRows_241 : decode cX11_readPlainRows 241 = .ok (.iconst 2, 1) := by decide +kernel
theorem dX11_readPlainRows_242 : decode cX11_readPlainRows 242 = .ok (.if_icmp .ne 41, 3) := by decide +kernel
theorem dX11_readPlainRows_245 : decode cX11_readPlainRows 245 = .ok (.iload 9, 2) := by decide +kernel
theorem dX11_readPlainRows_247 : decode cX11_readPlainRows 247 = .ok (.bipush 10, 2) := by decide +kernel
theorem dX11_readPlainRows_249 : decode cX11_readPlainRows 249 = .ok (.ishr, 1) := by decide +kernel
theorem dX11_readPlainRows_250 : decode cX11_readPlainRows 250 = .ok (.bipush 31, 2) := by decide +kernel
theorem dX11_readPlainRows_252 : decode cX11_readPlainRows 252 = .ok (.iand, 1) := by decide +kernel
theorem dX11_readPlainRows_253 : decode cX11_readPlainRows 253 = .ok (.invokestatic 201, 3) := by decide +kernel
theorem dX11_readPlainRows_256 : decode cX11_readPlainRows 256 = .ok (.iload 9, 2) := by decide +kernel
theorem dX11_readPlainRows_258 : decode cX11_readPlainRows 258 = .ok (.iconst 5, 1) := by decide +kernel
theorem dX11_readPlainRows_259 : decode cX11_readPlainRows 259 = .ok (.ishr, 1) := by decide +kernel
theorem dX11_readPlainRows_260 : decode cX11_readPlainRows 260 = .ok (.bipush 31, 2) := by decide +kernel
theorem dX11_readPlainRows_262 : decode cX11_readPlainRows 262 = .ok (.iand, 1) := by decide +kernel
theorem dX11_readPlainRows_263 : decode cX11_readPlainRows 263 = .ok (.invokestatic 201, 3) := by decide +kernel
theorem dX11_readPlainRows_266 : decode cX11_readPlainRows 266 = .ok (.iload 9, 2) := by decide +kernel
theorem dX11_readPlainRows_268 : decode cX11_readPlainRows 268 = .ok (.bipush 31, 2) := by decide +kernel
theorem dX11_readPlainRows_270 : decode cX11_readPlainRows 270 = .ok (.iand, 1) := by decide +kernel
theorem dX11_readPlainRows_271 : decode cX11_readPlainRows 271 = .ok (.invokestatic 201, 3) := by decide +kernel
theorem dX11_readPlainRows_274 : decode cX11_readPlainRows 274 = .ok (.sipush 255, 3) := by decide +kernel
theorem dX11_readPlainRows_277 : decode cX11_readPlainRows 277 = .ok (.invokestatic 115, 3) := by decide +kernel
theorem dX11_readPlainRows_280 : decode cX11_readPlainRows 280 = .ok (.goto 37, 3) := by decide +kernel
theorem dX11_readPlainRows_283 : decode cX11_readPlainRows 283 = .ok (.aload_n 0, 1) := by decide +kernel
theorem dX11_readPlainRows_284 : decode cX11_readPlainRows 284 = .ok (.aload_n 0, 1) := by decide +kernel
theorem dX11_readPlainRows_285 : decode cX11_readPlainRows 285 = .ok (.getfield 84, 3) := by decide +kernel
theorem dX11_readPlainRows_288 : decode cX11_readPlainRows 288 = .ok (.iconst 2, 1) := by decide +kernel
theorem dX11_readPlainRows_289 : decode cX11_readPlainRows 289 = .ok (.iadd, 1) := by decide +kernel
theorem dX11_readPlainRows_290 : decode cX11_readPlainRows 290 = .ok (.invokevirtual 99, 3) := by decide +kernel
theorem dX11_readPlainRows_293 : decode cX11_readPlainRows 293 = .ok (.aload_n 0, 1) := by decide +kernel
theorem dX11_readPlainRows_294 : decode cX11_readPlainRows 294 = .ok (.aload_n 0, 1) := by decide +kernel
theorem dX11_readPlainRows_295 : decode cX11_readPlainRows 295 = .ok (.getfield 84, 3) := by decide +kernel
theorem dX11_readPlainRows_298 : decode cX11_readPlainRows 298 = .ok (.iconst 1, 1) := by decide +kernel
theorem dX11_readPlainRows_299 : decode cX11_readPlainRows 299 = .ok (.iadd, 1) := by decide +kernel
theorem dX11_readPlainRows_300 : decode cX11_readPlainRows 300 = .ok (.invokevirtual 99, 3) := by decide +kernel
theorem dX11_readPlainRows_303 : decode cX11_readPlainRows 303 = .ok (.aload_n 0, 1) := by decide +kernel
theorem dX11_readPlainRows_304 : decode cX11_readPlainRows 304 = .ok (.aload_n 0, 1) := by decide +kernel
theorem dX11_readPlainRows_305 : decode cX11_readPlainRows 305 = .ok (.getfield 84, 3) := by decide +kernel
