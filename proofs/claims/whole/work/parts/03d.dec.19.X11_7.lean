theorem dX11_putBack_1 : decode cX11_putBack 1 = .ok (.iload_n 1, 1) := by decide +kernel
theorem dX11_putBack_2 : decode cX11_putBack 2 = .ok (.bipush 8, 2) := by decide +kernel
theorem dX11_putBack_4 : decode cX11_putBack 4 = .ok (.ishr, 1) := by decide +kernel
theorem dX11_putBack_5 : decode cX11_putBack 5 = .ok (.invokevirtual 280, 3) := by decide +kernel
theorem dX11_putBack_8 : decode cX11_putBack 8 = .ok (.aload_n 0, 1) := by decide +kernel
theorem dX11_putBack_9 : decode cX11_putBack 9 = .ok (.iload_n 1, 1) := by decide +kernel
theorem dX11_putBack_10 : decode cX11_putBack 10 = .ok (.bipush 16, 2) := by decide +kernel
theorem dX11_putBack_12 : decode cX11_putBack 12 = .ok (.ishr, 1) := by decide +kernel
theorem dX11_putBack_13 : decode cX11_putBack 13 = .ok (.invokevirtual 280, 3) := by decide +kernel
theorem dX11_putBack_16 : decode cX11_putBack 16 = .ok (.aload_n 0, 1) := by decide +kernel
theorem dX11_putBack_17 : decode cX11_putBack 17 = .ok (.iload_n 1, 1) := by decide +kernel
theorem dX11_putBack_18 : decode cX11_putBack 18 = .ok (.bipush 24, 2) := by decide +kernel
theorem dX11_putBack_20 : decode cX11_putBack 20 = .ok (.ishr, 1) := by decide +kernel
theorem dX11_putBack_21 : decode cX11_putBack 21 = .ok (.invokevirtual 280, 3) := by decide +kernel
theorem dX11_putBack_24 : decode cX11_putBack 24 = .ok (.iload_n 2, 1) := by decide +kernel
theorem dX11_putBack_25 : decode cX11_putBack 25 = .ok (.iconst 4, 1) := by decide +kernel
theorem dX11_putBack_26 : decode cX11_putBack 26 = .ok (.if_icmp .ne 8, 3) := by decide +kernel
theorem dX11_putBack_29 : decode cX11_putBack 29 = .ok (.aload_n 0, 1) := by decide +kernel
theorem dX11_putBack_30 : decode cX11_putBack 30 = .ok (.iload_n 1, 1) := by decide +kernel
theorem dX11_putBack_31 : decode cX11_putBack 31 = .ok (.invokevirtual 280, 3) := by decide +kernel
theorem dX11_putBack_34 : decode cX11_putBack 34 = .ok (.return_, 1) := by decide +kernel
theorem dX11_mend_0 : decode cX11_mend 0 = .ok (.iconst 0, 1) := by decide +kernel
theorem dX11_mend_1 : decode cX11_mend 1 = .ok (.istore_n 3, 1) := by decide +kernel
theorem dX11_mend_2 : decode cX11_mend 2 = .ok (.iload_n 3, 1) := by decide +kernel
theorem dX11_mend_3 : decode cX11_mend 3 = .ok (.iconst 4, 1) := by decide +kernel
theorem dX11_mend_4 : decode cX11_mend 4 = .ok (.if_icmp .ge 24, 3) := by decide +kernel
theorem dX11_mend_7 : decode cX11_mend 7 = .ok (.aload_n 0, 1) := by decide +kernel
theorem dX11_mend_8 : decode cX11_mend 8 = .ok (.getfield 14, 3) := by decide +kernel
theorem dX11_mend_11 : decode cX11_mend 11 = .ok (.iload_n 1, 1) := by decide +kernel
theorem dX11_mend_12 : decode cX11_mend 12 = .ok (.iload_n 3, 1) := by decide +kernel
theorem dX11_mend_13 : decode cX11_mend 13 = .ok (.iadd, 1) := by decide +kernel
theorem dX11_mend_14 : decode cX11_mend 14 = .ok (.iload_n 2, 1) := by decide +kernel
theorem dX11_mend_15 : decode cX11_mend 15 = .ok (.bipush 8, 2) := by decide +kernel
theorem dX11_mend_17 : decode cX11_mend 17 = .ok (.iload_n 3, 1) := by decide +kernel
theorem dX11_mend_18 : decode cX11_mend 18 = .ok (.imul, 1) := by decide +kernel
theorem dX11_mend_19 : decode cX11_mend 19 = .ok (.ishr, 1) := by decide +kernel
theorem dX11_mend_20 : decode cX11_mend 20 = .ok (.i2b, 1) := by decide +kernel
theorem dX11_mend_21 : decode cX11_mend 21 = .ok (.bastore, 1) := by decide +kernel
theorem dX11_mend_22 : decode cX11_mend 22 = .ok (.iinc 3 1, 3) := by decide +kernel
theorem dX11_mend_25 : decode cX11_mend 25 = .ok (.goto (-23), 3) := by decide +kernel
theorem dX11_mend_28 : decode cX11_mend 28 = .ok (.return_, 1) := by decide +kernel
theorem dX11_writeRows_0 : decode cX11_writeRows 0 = .ok (.iconst 0, 1) := by decide +kernel
theorem dX11_writeRows_1 : decode cX11_writeRows 1 = .ok (.istore_n 3, 1) := by decide +kernel
theorem dX11_writeRows_2 : decode cX11_writeRows 2 = .ok (.iload_n 2, 1) := by decide +kernel
theorem dX11_writeRows_3 : decode cX11_writeRows 3 = .ok (.bipush 7, 2) := by decide +kernel
theorem dX11_writeRows_5 : decode cX11_writeRows 5 = .ok (.if_icmp .eq 13, 3) := by decide +kernel
theorem dX11_writeRows_8 : decode cX11_writeRows 8 = .ok (.aload_n 0, 1) := by decide +kernel
theorem dX11_writeRows_9 : decode cX11_writeRows 9 = .ok (.iload_n 1, 1) := by decide +kernel
theorem dX11_writeRows_10 : decode cX11_writeRows 10 = .ok (.invokevirtual 293, 3) := by decide +kernel
theorem dX11_writeRows_13 : decode cX11_writeRows 13 = .ok (.aload_n 0, 1) := by decide +kernel
theorem dX11_writeRows_14 : decode cX11_writeRows 14 = .ok (.getfield 262, 3) := by decide +kernel
theorem dX11_writeRows_17 : decode cX11_writeRows 17 = .ok (.istore_n 3, 1) := by decide +kernel
theorem dX11_writeRows_18 : decode cX11_writeRows 18 = .ok (.aload_n 0, 1) := by decide +kernel
theorem dX11_writeRows_19 : decode cX11_writeRows 19 = .ok (.bipush 66, 2) := by decide +kernel
theorem dX11_writeRows_21 : decode cX11_writeRows 21 = .ok (.invokevirtual 280, 3) := by decide +kernel
theorem dX11_writeRows_24 : decode cX11_writeRows 24 = .ok (.aload_n 0, 1) := by decide +kernel
theorem dX11_writeRows_25 : decode cX11_writeRows 25 = .ok (.bipush 77, 2) := by decide +kernel
theorem dX11_writeRows_27 : decode cX11_writeRows 27 = .ok (.invokevirtual 280, 3) := by decide +kernel
theorem dX11_writeRows_30 : decode cX11_writeRows 30 = .ok (.aload_n 0, 1) := by decide +kernel
theorem dX11_writeRows_31 : decode cX11_writeRows 31 = .ok (.iconst 0, 1) := by decide +kernel
theorem dX11_writeRows_32 : decode cX11_writeRows 32 = .ok (.iconst 4, 1) := by decide +kernel
theorem dX11_writeRows_33 : decode cX11_writeRows 33 = .ok (.invokevirtual 296, 3) := by decide +kernel
theorem dX11_writeRows_36 : decode cX11_writeRows 36 = .ok (.aload_n 0, 1) := by decide +kernel
theorem dX11_writeRows_37 : decode cX11_writeRows 37 = .ok (.iconst 0, 1) := by decide +kernel
theorem dX11_writeRows_38 : decode cX11_writeRows 38 = .ok (.iconst 4, 1) := by decide +kernel
theorem dX11_writeRows_39 : decode cX11_writeRows 39 = .ok (.invokevirtual 296, 3) := by decide +kernel
theorem dX11_writeRows_42 : decode cX11_writeRows 42 = .ok (.aload_n 0, 1) := by decide +kernel
theorem dX11_writeRows_43 : decode cX11_writeRows 43 = .ok (.bipush 54, 2) := by decide +kernel
theorem dX11_writeRows_45 : decode cX11_writeRows 45 = .ok (.iconst 4, 1) := by decide +kernel
theorem dX11_writeRows_46 : decode cX11_writeRows 46 = .ok (.iload_n 3, 1) := by decide +kernel
theorem dX11_writeRows_47 : decode cX11_writeRows 47 = .ok (.imul, 1) := by decide +kernel
theorem dX11_writeRows_48 : decode cX11_writeRows 48 = .ok (.iadd, 1) := by decide +kernel
theorem dX11_writeRows_49 : decode cX11_writeRows 49 = .ok (.iconst 4, 1) := by decide +kernel
theorem dX11_writeRows_50 : decode cX11_writeRows 50 = .ok (.invokevirtual 296, 3) := by decide +kernel
theorem dX11_writeRows_53 : decode cX11_writeRows 53 = .ok (.aload_n 0, 1) := by decide +kernel
theorem dX11_writeRows_54 : decode cX11_writeRows 54 = .ok (.bipush 40, 2) := by decide +kernel
theorem dX11_writeRows_56 : decode cX11_writeRows 56 = .ok (.iconst 4, 1) := by decide +kernel
theorem dX11_writeRows_57 : decode cX11_writeRows 57 = .ok (.invokevirtual 296, 3) := by decide +kernel
theorem dX11_writeRows_60 : decode cX11_writeRows 60 = .ok (.aload_n 0, 1) := by decide +kernel
theorem dX11_writeRows_61 : decode cX11_writeRows 61 = .ok (.aload_n 0, 1) := by decide +kernel
theorem dX11_writeRows_62 : decode cX11_writeRows 62 = .ok (.getfield 21, 3) := by decide +kernel
theorem dX11_writeRows_65 : decode cX11_writeRows 65 = .ok (.iload_n 1, 1) := by decide +kernel
theorem dX11_writeRows_66 : decode cX11_writeRows 66 = .ok (.iaload, 1) := by decide +kernel
theorem dX11_writeRows_67 : decode cX11_writeRows 67 = .ok (.iconst 4, 1) := by decide +kernel
theorem dX11_writeRows_68 : decode cX11_writeRows 68 = .ok (.invokevirtual 296, 3) := by decide +kernel
theorem dX11_writeRows_71 : decode cX11_writeRows 71 = .ok (.aload_n 0, 1) := by decide +kernel
theorem dX11_writeRows_72 : decode cX11_writeRows 72 = .ok (.aload_n 0, 1) := by decide +kernel
theorem dX11_writeRows_73 : decode cX11_writeRows 73 = .ok (.getfield 24, 3) := by decide +kernel
theorem dX11_writeRows_76 : decode cX11_writeRows 76 = .ok (.iload_n 1, 1) := by decide +kernel
theorem dX11_writeRows_77 : decode cX11_writeRows 77 = .ok (.iaload, 1) := by decide +kernel
theorem dX11_writeRows_78 : decode cX11_writeRows 78 = .ok (.iconst 4, 1) := by decide +kernel
theorem dX11_writeRows_79 : decode cX11_writeRows 79 = .ok (.invokevirtual 296, 3) := by decide +kernel
theorem dX11_writeRows_82 : decode cX11_writeRows 82 = .ok (.aload_n 0, 1) := by decide +kernel
theorem dX11_writeRows_83 : decode cX11_writeRows 83 = .ok (.iconst 1, 1) := by decide +kernel
theorem dX11_writeRows_84 : decode cX11_writeRows 84 = .ok (.iconst 2, 1) := by decide +kernel
theorem dX11_writeRows_85 : decode cX11_writeRows 85 = .ok (.invokevirtual 296, 3) := by decide +kernel
theorem dX11_writeRows_88 : decode cX11_writeRows 88 = .ok (.aload_n 0, 1) := by decide +kernel
theorem dX11_writeRows_89 : decode cX11_writeRows 89 = .ok (.iload_n 2, 1) := by decide +kernel
theorem dX11_writeRows_90 : decode cX11_writeRows 90 = .ok (.bipush 7, 2) := by decide +kernel
theorem dX11_writeRows_92 : decode cX11_writeRows 92 = .ok (.if_icmp .ne 8, 3) := by decide +kernel
theorem dX11_writeRows_95 : decode cX11_writeRows 95 = .ok (.bipush 24, 2) := by decide +kernel
theorem dX11_writeRows_97 : decode cX11_writeRows 97 = .ok (.goto 5, 3) := by decide +kernel
theorem dX11_writeRows_100 : decode cX11_writeRows 100 = .ok (.bipush 8, 2) := by decide +kernel
theorem dX11_writeRows_102 : decode cX11_writeRows 102 = .ok (.iconst 2, 1) := by decide +kernel
theorem dX11_writeRows_103 : decode cX11_writeRows 103 = .ok (.invokevirtual 296, 3) := by decide +kernel
theorem dX11_writeRows_106 : decode cX11_writeRows 106 = .ok (.aload_n 0, 1) := by decide +kernel
theorem dX11_writeRows_107 : decode cX11_writeRows 107 = .ok (.iload_n 2, 1) := by decide +kernel
theorem dX11_writeRows_108 : decode cX11_writeRows 108 = .ok (.bipush 9, 2) := by decide +kernel
theorem dX11_writeRows_110 : decode cX11_writeRows 110 = .ok (.if_icmp .ne 7, 3) := by decide +kernel
theorem dX11_writeRows_113 : decode cX11_writeRows 113 = .ok (.iconst 1, 1) := by decide +kernel
theorem dX11_writeRows_114 : decode cX11_writeRows 114 = .ok (.goto 4, 3) := by decide +kernel
theorem dX11_writeRows_117 : decode cX11_writeRows 117 = .ok (.iconst 0, 1) := by decide +kernel
theorem dX11_writeRows_118 : decode cX11_writeRows 118 = .ok (.iconst 4, 1) := by decide +kernel
theorem dX11_writeRows_119 : decode cX11_writeRows 119 = .ok (.invokevirtual 296, 3) := by decide +kernel
theorem dX11_writeRows_122 : decode cX11_writeRows 122 = .ok (.aload_n 0, 1) := by decide +kernel
theorem dX11_writeRows_123 : decode cX11_writeRows 123 = .ok (.iconst 0, 1) := by decide +kernel
theorem dX11_writeRows_124 : decode cX11_writeRows 124 = .ok (.iconst 4, 1) := by decide +kernel
theorem dX11_writeRows_125 : decode cX11_writeRows 125 = .ok (.invokevirtual 296, 3) := by decide +kernel
theorem dX11_writeRows_128 : decode cX11_writeRows 128 = .ok (.aload_n 0, 1) := by decide +kernel
theorem dX11_writeRows_129 : decode cX11_writeRows 129 = .ok (.sipush 2835, 3) := by decide +kernel
theorem dX11_writeRows_132 : decode cX11_writeRows 132 = .ok (.iconst 4, 1) := by decide +kernel
theorem dX11_writeRows_133 : decode cX11_writeRows 133 = .ok (.invokevirtual 296, 3) := by decide +kernel
theorem dX11_writeRows_136 : decode cX11_writeRows 136 = .ok (.aload_n 0, 1) := by decide +kernel
theorem dX11_writeRows_137 : decode cX11_writeRows 137 = .ok (.sipush 2835, 3) := by decide +kernel
theorem dX11_writeRows_140 : decode cX11_writeRows 140 = .ok (.iconst 4, 1) := by decide +kernel
theorem dX11_writeRows_141 : decode cX11_writeRows 141 = .ok (.invokevirtual 296, 3) := by decide +kernel
theorem dX11_writeRows_144 : decode cX11_writeRows 144 = .ok (.aload_n 0, 1) := by decide +kernel
theorem dX11_writeRows_145 : decode cX11_writeRows 145 = .ok (.iload_n 3, 1) := by decide +kernel
theorem dX11_writeRows_146 : decode cX11_writeRows 146 = .ok (.iconst 4, 1) := by decide +kernel
theorem dX11_writeRows_147 : decode cX11_writeRows 147 = .ok (.invokevirtual 296, 3) := by decide +kernel
theorem dX11_writeRows_150 : decode cX11_writeRows 150 = .ok (.aload_n 0, 1) := by decide +kernel
theorem dX11_writeRows_151 : decode cX11_writeRows 151 = .ok (.iconst 0, 1) := by decide +kernel
theorem dX11_writeRows_152 : decode cX11_writeRows 152 = .ok (.iconst 4, 1) := by decide +kernel
theorem dX11_writeRows_153 : decode cX11_writeRows 153 = .ok (.invokevirtual 296, 3) := by decide +kernel
theorem dX11_writeRows_156 : decode cX11_writeRows 156 = .ok (.iconst 0, 1) := by decide +kernel
theorem dX11_writeRows_157 : decode cX11_writeRows 157 = .ok (.istore 4, 2) := by decide +kernel
theorem dX11_writeRows_159 : decode cX11_writeRows 159 = .ok (.iload 4, 2) := by decide +kernel
theorem dX11_writeRows_161 : decode cX11_writeRows 161 = .ok (.iload_n 3, 1) := by decide +kernel
theorem dX11_writeRows_162 : decode cX11_writeRows 162 = .ok (.if_icmp .ge 26, 3) := by decide +kernel
theorem dX11_writeRows_165 : decode cX11_writeRows 165 = .ok (.aload_n 0, 1) := by decide +kernel
theorem dX11_writeRows_166 : decode cX11_writeRows 166 = .ok (.aload_n 0, 1) := by decide +kernel
theorem dX11_writeRows_167 : decode cX11_writeRows 167 = .ok (.getfield 58, 3) := by decide +kernel
theorem dX11_writeRows_170 : decode cX11_writeRows 170 = .ok (.iload 4, 2) := by decide +kernel
theorem dX11_writeRows_172 : decode cX11_writeRows 172 = .ok (.iaload, 1) := by decide +kernel
theorem dX11_writeRows_173 : decode cX11_writeRows 173 = .ok (.iconst 3, 1) := by decide +kernel
theorem dX11_writeRows_174 : decode cX11_writeRows 174 = .ok (.invokevirtual 299, 3) := by decide +kernel
theorem dX11_writeRows_177 : decode cX11_writeRows 177 = .ok (.aload_n 0, 1) := by decide +kernel
theorem dX11_writeRows_178 : decode cX11_writeRows 178 = .ok (.iconst 0, 1) := by decide +kernel
theorem dX11_writeRows_179 : decode cX11_writeRows 179 = .ok (.invokevirtual 280, 3) := by decide +kernel
theorem dX11_writeRows_182 : decode cX11_writeRows 182 = .ok (.iinc 4 1, 3) := by decide +kernel
theorem dX11_writeRows_185 : decode cX11_writeRows 185 = .ok (.goto (-26), 3) := by decide +kernel
theorem dX11_writeRows_188 : decode cX11_writeRows 188 = .ok (.aload_n 0, 1) := by decide +kernel
theorem dX11_writeRows_189 : decode cX11_writeRows 189 = .ok (.getfield 75, 3) := by decide +kernel
theorem dX11_writeRows_192 : decode cX11_writeRows 192 = .ok (.istore 4, 2) := by decide +kernel
theorem dX11_writeRows_194 : decode cX11_writeRows 194 = .ok (.aload_n 0, 1) := by decide +kernel
theorem dX11_writeRows_195 : decode cX11_writeRows 195 = .ok (.getfield 24, 3) := by decide +kernel
theorem dX11_writeRows_198 : decode cX11_writeRows 198 = .ok (.iload_n 1, 1) := by decide +kernel
theorem dX11_writeRows_199 : decode cX11_writeRows 199 = .ok (.iaload, 1) := by decide +kernel
theorem dX11_writeRows_200 : decode cX11_writeRows 200 = .ok (.iconst 1, 1) := by decide +kernel
theorem dX11_writeRows_201 : decode cX11_writeRows 201 = .ok (.isub, 1) := by decide +kernel
theorem dX11_writeRows_202 : decode cX11_writeRows 202 = .ok (.istore 5, 2) := by decide +kernel
theorem dX11_writeRows_204 : decode cX11_writeRows 204 = .ok (.iload 5, 2) := by decide +kernel
theorem dX11_writeRows_206 : decode cX11_writeRows 206 = .ok (.ifCond .lt 178, 3) := by decide +kernel
theorem dX11_writeRows_209 : decode cX11_writeRows 209 = .ok (.iconst 0, 1) := by decide +kernel
theorem dX11_writeRows_210 : decode cX11_writeRows 210 = .ok (.istore 6, 2) := by decide +kernel
theorem dX11_writeRows_212 : decode cX11_writeRows 212 = .ok (.iload 6, 2) := by decide +kernel
theorem dX11_writeRows_214 : decode cX11_writeRows 214 = .ok (.aload_n 0, 1) := by decide +kernel
theorem dX11_writeRows_215 : decode cX11_writeRows 215 = .ok (.getfield 21, 3) := by decide +kernel
theorem dX11_writeRows_218 : decode cX11_writeRows 218 = .ok (.iload_n 1, 1) := by decide +kernel
theorem dX11_writeRows_219 : decode cX11_writeRows 219 = .ok (.iaload, 1) := by decide +kernel
theorem dX11_writeRows_220 : decode cX11_writeRows 220 = .ok (.if_icmp .ge 110, 3) := by decide +kernel
theorem dX11_writeRows_223 : decode cX11_writeRows 223 = .ok (.aload_n 0, 1) := by decide +kernel
theorem dX11_writeRows_224 : decode cX11_writeRows 224 = .ok (.iload_n 1, 1) := by decide +kernel
theorem dX11_writeRows_225 : decode cX11_writeRows 225 = .ok (.iload 6, 2) := by decide +kernel
theorem dX11_writeRows_227 : decode cX11_writeRows 227 = .ok (.iload 5, 2) := by decide +kernel
theorem dX11_writeRows_229 : decode cX11_writeRows 229 = .ok (.invokevirtual 291, 3) := by decide +kernel
theorem dX11_writeRows_232 : decode cX11_writeRows 232 = .ok (.istore 7, 2) := by decide +kernel
theorem dX11_writeRows_234 : decode cX11_writeRows 234 = .ok (.iconst 1, 1) := by decide +kernel
theorem dX11_writeRows_235 : decode cX11_writeRows 235 = .ok (.istore 8, 2) := by decide +kernel
theorem dX11_writeRows_237 : decode cX11_writeRows 237 = .ok (.iload_n 2, 1) := by decide +kernel
theorem dX11_writeRows_238 : decode cX11_writeRows 238 = .ok (.bipush 9, 2) := by decide +kernel
theorem dX11_writeRows_240 : decode cX11_writeRows 240 = .ok (.if_icmp .ne 54, 3) := by decide +kernel
theorem dX11_writeRows_243 : decode cX11_writeRows 243 = .ok (.iload 8, 2) := by decide +kernel
theorem dX11_writeRows_245 : decode cX11_writeRows 245 = .ok (.sipush 255, 3) := by decide +kernel
theorem dX11_writeRows_248 : decode cX11_writeRows 248 = .ok (.if_icmp .ge 40, 3) := by decide +kernel
theorem dX11_writeRows_251 : decode cX11_writeRows 251 = .ok (.iload 6, 2) := by decide +kernel
theorem dX11_writeRows_253 : decode cX11_writeRows 253 = .ok (.iload 8, 2) := by decide +kernel
theorem dX11_writeRows_255 : decode cX11_writeRows 255 = .ok (.iadd, 1) := by decide +kernel
theorem dX11_writeRows_256 : decode cX11_writeRows 256 = .ok (.aload_n 0, 1) := by decide +kernel
theorem dX11_writeRows_257 : decode cX11_writeRows 257 = .ok (.getfield 21, 3) := by decide +kernel
theorem dX11_writeRows_260 : decode cX11_writeRows 260 = .ok (.iload_n 1, 1) := by decide +kernel
theorem dX11_writeRows_261 : decode cX11_writeRows 261 = .ok (.iaload, 1) := by decide +kernel
theorem dX11_writeRows_262 : decode cX11_writeRows 262 = .ok (.if_icmp .ge 26, 3) := by decide +kernel
theorem dX11_writeRows_265 : decode cX11_writeRows 265 = .ok (.aload_n 0, 1) := by decide +kernel
theorem dX11_writeRows_266 : decode cX11_writeRows 266 = .ok (.iload_n 1, 1) := by decide +kernel
theorem dX11_writeRows_267 : decode cX11_writeRows 267 = .ok (.iload 6, 2) := by decide +kernel
theorem dX11_writeRows_269 : decode cX11_writeRows 269 = .ok (.iload 8, 2) := by decide +kernel
theorem dX11_writeRows_271 : decode cX11_writeRows 271 = .ok (.iadd, 1) := by decide +kernel
theorem dX11_writeRows_272 : decode cX11_writeRows 272 = .ok (.iload 5, 2) := by decide +kernel
theorem dX11_writeRows_274 : decode cX11_writeRows 274 = .ok (.invokevirtual 291, 3) := by decide +kernel
theorem dX11_writeRows_277 : decode cX11_writeRows 277 = .ok (.iload 7, 2) := by decide +kernel
theorem dX11_writeRows_279 : decode cX11_writeRows 279 = .ok (.if_icmp .ne 9, 3) := by decide +kernel
theorem dX11_writeRows_282 : decode cX11_writeRows 282 = .ok (.iinc 8 1, 3) := by decide +kernel
theorem dX11_writeRows_285 : decode cX11_writeRows 285 = .ok (.goto (-42), 3) := by decide +kernel
theorem dX11_writeRows_288 : decode cX11_writeRows 288 = .ok (.aload_n 0, 1) := by decide +kernel
theorem dX11_writeRows_289 : decode cX11_writeRows 289 = .ok (.iload 8, 2) := by decide +kernel
theorem dX11_writeRows_291 : decode cX11_writeRows 291 = .ok (.invokevirtual 280, 3) := by decide +kernel
theorem dX11_writeRows_294 : decode cX11_writeRows 294 = .ok (.iload_n 2, 1) := by decide +kernel
theorem dX11_writeRows_295 : decode cX11_writeRows 295 = .ok (.bipush 7, 2) := by decide +kernel
theorem dX11_writeRows_297 : decode cX11_writeRows 297 = .ok (.if_icmp .ne 13, 3) := by decide +kernel
theorem dX11_writeRows_300 : decode cX11_writeRows 300 = .ok (.aload_n 0, 1) := by decide +kernel
theorem dX11_writeRows_301 : decode cX11_writeRows 301 = .ok (.iload 7, 2) := by decide +kernel
theorem dX11_writeRows_303 : decode cX11_writeRows 303 = .ok (.iconst 3, 1) := by decide +kernel
theorem dX11_writeRows_304 : decode cX11_writeRows 304 = .ok (.invokevirtual 299, 3) := by decide +kernel
theorem dX11_writeRows_307 : decode cX11_writeRows 307 = .ok (.goto 13, 3) := by decide +kernel
theorem dX11_writeRows_310 : decode cX11_writeRows 310 = .ok (.aload_n 0, 1) := by decide +kernel
theorem dX11_writeRows_311 : decode cX11_writeRows 311 = .ok (.aload_n 0, 1) := by decide +kernel
theorem dX11_writeRows_312 : decode cX11_writeRows 312 = .ok (.iload 7, 2) := by decide +kernel
theorem dX11_writeRows_314 : decode cX11_writeRows 314 = .ok (.invokevirtual 265, 3) := by decide +kernel
theorem dX11_writeRows_317 : decode cX11_writeRows 317 = .ok (.invokevirtual 280, 3) := by decide +kernel
theorem dX11_writeRows_320 : decode cX11_writeRows 320 = .ok (.iload 6, 2) := by decide +kernel
theorem dX11_writeRows_322 : decode cX11_writeRows 322 = .ok (.iload 8, 2) := by decide +kernel
theorem dX11_writeRows_324 : decode cX11_writeRows 324 = .ok (.iadd, 1) := by decide +kernel
theorem dX11_writeRows_325 : decode cX11_writeRows 325 = .ok (.istore 6, 2) := by decide +kernel
theorem dX11_writeRows_327 : decode cX11_writeRows 327 = .ok (.goto (-115), 3) := by decide +kernel
theorem dX11_writeRows_330 : decode cX11_writeRows 330 = .ok (.iload_n 2, 1) := by decide +kernel
theorem dX11_writeRows_331 : decode cX11_writeRows 331 = .ok (.bipush 9, 2) := by decide +kernel
theorem dX11_writeRows_333 : decode cX11_writeRows 333 = .ok (.if_icmp .ne 25, 3) := by decide +kernel
theorem dX11_writeRows_336 : decode cX11_writeRows 336 = .ok (.aload_n 0, 1) := by decide +kernel
theorem dX11_writeRows_337 : decode cX11_writeRows 337 = .ok (.iconst 0, 1) := by decide +kernel
theorem dX11_writeRows_338 : decode cX11_writeRows 338 = .ok (.invokevirtual 280, 3) := by decide +kernel
theorem dX11_writeRows_341 : decode cX11_writeRows 341 = .ok (.aload_n 0, 1) := by decide +kernel
theorem dX11_writeRows_342 : decode cX11_writeRows 342 = .ok (.iload 5, 2) := by decide +kernel
theorem dX11_writeRows_344 : decode cX11_writeRows 344 = .ok (.ifCond .ne 7, 3) := by decide +kernel
theorem dX11_writeRows_347 : decode cX11_writeRows 347 = .ok (.iconst 1, 1) := by decide +kernel
theorem dX11_writeRows_348 : decode cX11_writeRows 348 = .ok (.goto 4, 3) := by decide +kernel
theorem dX11_writeRows_351 : decode cX11_writeRows 351 = .ok (.iconst 0, 1) := by decide +kernel
theorem dX11_writeRows_352 : decode cX11_writeRows 352 = .ok (.invokevirtual 280, 3) := by decide +kernel
theorem dX11_writeRows_355 : decode cX11_writeRows 355 = .ok (.goto 23, 3) := by decide +kernel
theorem dX11_writeRows_358 : decode cX11_writeRows 358 = .ok (.aload_n 0, 1) := by decide +kernel
theorem dX11_writeRows_359 : decode cX11_writeRows 359 = .ok (.getfield 75, 3) := by decide +kernel
theorem dX11_writeRows_362 : decode cX11_writeRows 362 = .ok (.iload 4, 2) := by decide +kernel
theorem dX11_writeRows_364 : decode cX11_writeRows 364 = .ok (.isub, 1) := by decide +kernel
theorem dX11_writeRows_365 : decode cX11_writeRows 365 = .ok (.iconst 4, 1) := by decide +kernel
theorem dX11_writeRows_366 : decode cX11_writeRows 366 = .ok (.irem, 1) := by decide +kernel
theorem dX11_writeRows_367 : decode cX11_writeRows 367 = .ok (.ifCond .eq 11, 3) := by decide +kernel
theorem dX11_writeRows_370 : decode cX11_writeRows 370 = .ok (.aload_n 0, 1) := by decide +kernel
theorem dX11_writeRows_371 : decode cX11_writeRows 371 = .ok (.iconst 0, 1) := by decide +kernel
theorem dX11_writeRows_372 : decode cX11_writeRows 372 = .ok (.invokevirtual 280, 3) := by decide +kernel
theorem dX11_writeRows_375 : decode cX11_writeRows 375 = .ok (.goto (-17), 3) := by decide +kernel
theorem dX11_writeRows_378 : decode cX11_writeRows 378 = .ok (.iinc 5 (-1), 3) := by decide +kernel
theorem dX11_writeRows_381 : decode cX11_writeRows 381 = .ok (.goto (-177), 3) := by decide +kernel
theorem dX11_writeRows_384 : decode cX11_writeRows 384 = .ok (.aload_n 0, 1) := by decide +kernel
theorem dX11_writeRows_385 : decode cX11_writeRows 385 = .ok (.iconst 2, 1) := by decide +kernel
theorem dX11_writeRows_386 : decode cX11_writeRows 386 = .ok (.aload_n 0, 1) := by decide +kernel
theorem dX11_writeRows_387 : decode cX11_writeRows 387 = .ok (.getfield 75, 3) := by decide +kernel
theorem dX11_writeRows_390 : decode cX11_writeRows 390 = .ok (.invokevirtual 302, 3) := by decide +kernel
theorem dX11_writeRows_393 : decode cX11_writeRows 393 = .ok (.aload_n 0, 1) := by decide +kernel
theorem dX11_writeRows_394 : decode cX11_writeRows 394 = .ok (.bipush 34, 2) := by decide +kernel
theorem dX11_writeRows_396 : decode cX11_writeRows 396 = .ok (.aload_n 0, 1) := by decide +kernel
theorem dX11_writeRows_397 : decode cX11_writeRows 397 = .ok (.getfield 75, 3) := by decide +kernel
theorem dX11_writeRows_400 : decode cX11_writeRows 400 = .ok (.iload 4, 2) := by decide +kernel
theorem dX11_writeRows_402 : decode cX11_writeRows 402 = .ok (.isub, 1) := by decide +kernel
theorem dX11_writeRows_403 : decode cX11_writeRows 403 = .ok (.invokevirtual 302, 3) := by decide +kernel
theorem dX11_writeRows_406 : decode cX11_writeRows 406 = .ok (.return_, 1) := by decide +kernel
theorem dX11_writeTarga_0 : decode cX11_writeTarga 0 = .ok (.aload_n 0, 1) := by decide +kernel
theorem dX11_writeTarga_1 : decode cX11_writeTarga 1 = .ok (.iload_n 1, 1) := by decide +kernel
theorem dX11_writeTarga_2 : decode cX11_writeTarga 2 = .ok (.invokevirtual 271, 3) := by decide +kernel
theorem dX11_writeTarga_5 : decode cX11_writeTarga 5 = .ok (.ifCond .eq 7, 3) := by decide +kernel
theorem dX11_writeTarga_8 : decode cX11_writeTarga 8 = .ok (.iconst 3, 1) := by decide +kernel
theorem dX11_writeTarga_9 : decode cX11_writeTarga 9 = .ok (.goto 4, 3) := by decide +kernel
theorem dX11_writeTarga_12 : decode cX11_writeTarga 12 = .ok (.iconst 4, 1) := by decide +kernel
theorem dX11_writeTarga_13 : decode cX11_writeTarga 13 = .ok (.istore_n 3, 1) := by decide +kernel
theorem dX11_writeTarga_14 : decode cX11_writeTarga 14 = .ok (.iload_n 2, 1) := by decide +kernel
theorem dX11_writeTarga_15 : decode cX11_writeTarga 15 = .ok (.bipush 14, 2) := by decide +kernel
theorem dX11_writeTarga_17 : decode cX11_writeTarga 17 = .ok (.if_icmp .lt 7, 3) := by decide +kernel
theorem dX11_writeTarga_20 : decode cX11_writeTarga 20 = .ok (.iconst 1, 1) := by decide +kernel
theorem dX11_writeTarga_21 : decode cX11_writeTarga 21 = .ok (.goto 4, 3) := by decide +kernel
theorem dX11_writeTarga_24 : decode cX11_writeTarga 24 = .ok (.iconst 0, 1) := by decide +kernel
theorem dX11_writeTarga_25 : decode cX11_writeTarga 25 = .ok (.istore 4, 2) := by decide +kernel
theorem dX11_writeTarga_27 : decode cX11_writeTarga 27 = .ok (.iload_n 2, 1) := by decide +kernel
theorem dX11_writeTarga_28 : decode cX11_writeTarga 28 = .ok (.bipush 12, 2) := by decide +kernel
theorem dX11_writeTarga_30 : decode cX11_writeTarga 30 = .ok (.if_icmp .eq 9, 3) := by decide +kernel
theorem dX11_writeTarga_33 : decode cX11_writeTarga 33 = .ok (.iload_n 2, 1) := by decide +kernel
theorem dX11_writeTarga_34 : decode cX11_writeTarga 34 = .ok (.bipush 13, 2) := by decide +kernel
theorem dX11_writeTarga_36 : decode cX11_writeTarga 36 = .ok (.if_icmp .ne 7, 3) := by decide +kernel
theorem dX11_writeTarga_39 : decode cX11_writeTarga 39 = .ok (.iconst 1, 1) := by decide +kernel
theorem dX11_writeTarga_40 : decode cX11_writeTarga 40 = .ok (.goto 4, 3) := by decide +kernel
theorem dX11_writeTarga_43 : decode cX11_writeTarga 43 = .ok (.iconst 0, 1) := by decide +kernel
theorem dX11_writeTarga_44 : decode cX11_writeTarga 44 = .ok (.istore 5, 2) := by decide +kernel
theorem dX11_writeTarga_46 : decode cX11_writeTarga 46 = .ok (.iload 4, 2) := by decide +kernel
theorem dX11_writeTarga_48 : decode cX11_writeTarga 48 = .ok (.ifCond .eq 8, 3) := by decide +kernel
theorem dX11_writeTarga_51 : decode cX11_writeTarga 51 = .ok (.aload_n 0, 1) := by decide +kernel
theorem dX11_writeTarga_52 : decode cX11_writeTarga 52 = .ok (.iload_n 1, 1) := by decide +kernel
theorem dX11_writeTarga_53 : decode cX11_writeTarga 53 = .ok (.invokevirtual 293, 3) := by decide +kernel
theorem dX11_writeTarga_56 : decode cX11_writeTarga 56 = .ok (.aload_n 0, 1) := by decide +kernel
theorem dX11_writeTarga_57 : decode cX11_writeTarga 57 = .ok (.iconst 0, 1) := by decide +kernel
theorem dX11_writeTarga_58 : decode cX11_writeTarga 58 = .ok (.invokevirtual 280, 3) := by decide +kernel
theorem dX11_writeTarga_61 : decode cX11_writeTarga 61 = .ok (.aload_n 0, 1) := by decide +kernel
theorem dX11_writeTarga_62 : decode cX11_writeTarga 62 = .ok (.iload 4, 2) := by decide +kernel
theorem dX11_writeTarga_64 : decode cX11_writeTarga 64 = .ok (.ifCond .eq 7, 3) := by decide +kernel
theorem dX11_writeTarga_67 : decode cX11_writeTarga 67 = .ok (.iconst 1, 1) := by decide +kernel
theorem dX11_writeTarga_68 : decode cX11_writeTarga 68 = .ok (.goto 4, 3) := by decide +kernel
theorem dX11_writeTarga_71 : decode cX11_writeTarga 71 = .ok (.iconst 0, 1) := by decide +kernel
theorem dX11_writeTarga_72 : decode cX11_writeTarga 72 = .ok (.invokevirtual 280, 3) := by decide +kernel
theorem dX11_writeTarga_75 : decode cX11_writeTarga 75 = .ok (.aload_n 0, 1) := by decide +kernel
theorem dX11_writeTarga_76 : decode cX11_writeTarga 76 = .ok (.iload_n 2, 1) := by decide +kernel
theorem dX11_writeTarga_77 : decode cX11_writeTarga 77 = .ok (.bipush 10, 2) := by decide +kernel
theorem dX11_writeTarga_79 : decode cX11_writeTarga 79 = .ok (.if_icmp .ne 7, 3) := by decide +kernel
theorem dX11_writeTarga_82 : decode cX11_writeTarga 82 = .ok (.iconst 2, 1) := by decide +kernel
theorem dX11_writeTarga_83 : decode cX11_writeTarga 83 = .ok (.goto 47, 3) := by decide +kernel
theorem dX11_writeTarga_86 : decode cX11_writeTarga 86 = .ok (.iload_n 2, 1) := by decide +kernel
theorem dX11_writeTarga_87 : decode cX11_writeTarga 87 = .ok (.bipush 11, 2) := by decide +kernel
theorem dX11_writeTarga_89 : decode cX11_writeTarga 89 = .ok (.if_icmp .ne 8, 3) := by decide +kernel
theorem dX11_writeTarga_92 : decode cX11_writeTarga 92 = .ok (.bipush 10, 2) := by decide +kernel
theorem dX11_writeTarga_94 : decode cX11_writeTarga 94 = .ok (.goto 36, 3) := by decide +kernel
theorem dX11_writeTarga_97 : decode cX11_writeTarga 97 = .ok (.iload_n 2, 1) := by decide +kernel
theorem dX11_writeTarga_98 : decode cX11_writeTarga 98 = .ok (.bipush 12, 2) := by decide +kernel
theorem dX11_writeTarga_100 : decode cX11_writeTarga 100 = .ok (.if_icmp .ne 7, 3) := by decide +kernel
theorem dX11_writeTarga_103 : decode cX11_writeTarga 103 = .ok (.iconst 3, 1) := by decide +kernel
theorem dX11_writeTarga_104 : decode cX11_writeTarga 104 = .ok (.goto 26, 3) := by decide +kernel
theorem dX11_writeTarga_107 : decode cX11_writeTarga 107 = .ok (.iload_n 2, 1) := by decide +kernel
theorem dX11_writeTarga_108 : decode cX11_writeTarga 108 = .ok (.bipush 13, 2) := by decide +kernel
theorem dX11_writeTarga_110 : decode cX11_writeTarga 110 = .ok (.if_icmp .ne 8, 3) := by decide +kernel
theorem dX11_writeTarga_113 : decode cX11_writeTarga 113 = .ok (.bipush 11, 2) := by decide +kernel
theorem dX11_writeTarga_115 : decode cX11_writeTarga 115 = .ok (.goto 15, 3) := by decide +kernel
theorem dX11_writeTarga_118 : decode cX11_writeTarga 118 = .ok (.iload_n 2, 1) := by decide +kernel
theorem dX11_writeTarga_119 : decode cX11_writeTarga 119 = .ok (.bipush 14, 2) := by decide +kernel
theorem dX11_writeTarga_121 : decode cX11_writeTarga 121 = .ok (.if_icmp .ne 7, 3) := by decide +kernel
theorem dX11_writeTarga_124 : decode cX11_writeTarga 124 = .ok (.iconst 1, 1) := by decide +kernel
theorem dX11_writeTarga_125 : decode cX11_writeTarga 125 = .ok (.goto 5, 3) := by decide +kernel
theorem dX11_writeTarga_128 : decode cX11_writeTarga 128 = .ok (.bipush 9, 2) := by decide +kernel
theorem dX11_writeTarga_130 : decode cX11_writeTarga 130 = .ok (.invokevirtual 280, 3) := by decide +kernel
theorem dX11_writeTarga_133 : decode cX11_writeTarga 133 = .ok (.aload_n 0, 1) := by decide +kernel
theorem dX11_writeTarga_134 : decode cX11_writeTarga 134 = .ok (.iconst 0, 1) := by decide +kernel
theorem dX11_writeTarga_135 : decode cX11_writeTarga 135 = .ok (.iconst 2, 1) := by decide +kernel
theorem dX11_writeTarga_136 : decode cX11_writeTarga 136 = .ok (.invokevirtual 296, 3) := by decide +kernel
theorem dX11_writeTarga_139 : decode cX11_writeTarga 139 = .ok (.aload_n 0, 1) := by decide +kernel
theorem dX11_writeTarga_140 : decode cX11_writeTarga 140 = .ok (.iload 4, 2) := by decide +kernel
theorem dX11_writeTarga_142 : decode cX11_writeTarga 142 = .ok (.ifCond .eq 10, 3) := by decide +kernel
theorem dX11_writeTarga_145 : decode cX11_writeTarga 145 = .ok (.aload_n 0, 1) := by decide +kernel
theorem dX11_writeTarga_146 : decode cX11_writeTarga 146 = .ok (.getfield 262, 3) := by decide +kernel
theorem dX11_writeTarga_149 : decode cX11_writeTarga 149 = .ok (.goto 4, 3) := by decide +kernel
theorem dX11_writeTarga_152 : decode cX11_writeTarga 152 = .ok (.iconst 0, 1) := by decide +kernel
theorem dX11_writeTarga_153 : decode cX11_writeTarga 153 = .ok (.iconst 2, 1) := by decide +kernel
theorem dX11_writeTarga_154 : decode cX11_writeTarga 154 = .ok (.invokevirtual 296, 3) := by decide +kernel
theorem dX11_writeTarga_157 : decode cX11_writeTarga 157 = .ok (.aload_n 0, 1) := by decide +kernel
theorem dX11_writeTarga_158 : decode cX11_writeTarga 158 = .ok (.iload 4, 2) := by decide +kernel
theorem dX11_writeTarga_160 : decode cX11_writeTarga 160 = .ok (.ifCond .eq 10, 3) := by decide +kernel
theorem dX11_writeTarga_163 : decode cX11_writeTarga 163 = .ok (.bipush 8, 2) := by decide +kernel
theorem dX11_writeTarga_165 : decode cX11_writeTarga 165 = .ok (.iload_n 3, 1) := by decide +kernel
theorem dX11_writeTarga_166 : decode cX11_writeTarga 166 = .ok (.imul, 1) := by decide +kernel
theorem dX11_writeTarga_167 : decode cX11_writeTarga 167 = .ok (.goto 4, 3) := by decide +kernel
theorem dX11_writeTarga_170 : decode cX11_writeTarga 170 = .ok (.iconst 0, 1) := by decide +kernel
theorem dX11_writeTarga_171 : decode cX11_writeTarga 171 = .ok (.invokevirtual 280, 3) := by decide +kernel
theorem dX11_writeTarga_174 : decode cX11_writeTarga 174 = .ok (.aload_n 0, 1) := by decide +kernel
theorem dX11_writeTarga_175 : decode cX11_writeTarga 175 = .ok (.iconst 0, 1) := by decide +kernel
theorem dX11_writeTarga_176 : decode cX11_writeTarga 176 = .ok (.iconst 4, 1) := by decide +kernel
theorem dX11_writeTarga_177 : decode cX11_writeTarga 177 = .ok (.invokevirtual 296, 3) := by decide +kernel
theorem dX11_writeTarga_180 : decode cX11_writeTarga 180 = .ok (.aload_n 0, 1) := by decide +kernel
theorem dX11_writeTarga_181 : decode cX11_writeTarga 181 = .ok (.aload_n 0, 1) := by decide +kernel
theorem dX11_writeTarga_182 : decode cX11_writeTarga 182 = .ok (.getfield 21, 3) := by decide +kernel
theorem dX11_writeTarga_185 : decode cX11_writeTarga 185 = .ok (.iload_n 1, 1) := by decide +kernel
theorem dX11_writeTarga_186 : decode cX11_writeTarga 186 = .ok (.iaload, 1) := by decide +kernel
theorem dX11_writeTarga_187 : decode cX11_writeTarga 187 = .ok (.iconst 2, 1) := by decide +kernel
theorem dX11_writeTarga_188 : decode cX11_writeTarga 188 = .ok (.invokevirtual 296, 3) := by decide +kernel
theorem dX11_writeTarga_191 : decode cX11_writeTarga 191 = .ok (.aload_n 0, 1) := by decide +kernel
theorem dX11_writeTarga_192 : decode cX11_writeTarga 192 = .ok (.aload_n 0, 1) := by decide +kernel
theorem dX11_writeTarga_193 : decode cX11_writeTarga 193 = .ok (.getfield 24, 3) := by decide +kernel
theorem dX11_writeTarga_196 : decode cX11_writeTarga 196 = .ok (.iload_n 1, 1) := by decide +kernel
theorem dX11_writeTarga_197 : decode cX11_writeTarga 197 = .ok (.iaload, 1) := by decide +kernel
theorem dX11_writeTarga_198 : decode cX11_writeTarga 198 = .ok (.iconst 2, 1) := by decide +kernel
theorem dX11_writeTarga_199 : decode cX11_writeTarga 199 = .ok (.invokevirtual 296, 3) := by decide +kernel
theorem dX11_writeTarga_202 : decode cX11_writeTarga 202 = .ok (.aload_n 0, 1) := by decide +kernel
theorem dX11_writeTarga_203 : decode cX11_writeTarga 203 = .ok (.iload 4, 2) := by decide +kernel
theorem dX11_writeTarga_205 : decode cX11_writeTarga 205 = .ok (.ifCond .ne 8, 3) := by decide +kernel
theorem dX11_writeTarga_208 : decode cX11_writeTarga 208 = .ok (.iload 5, 2) := by decide +kernel
theorem dX11_writeTarga_210 : decode cX11_writeTarga 210 = .ok (.ifCond .eq 8, 3) := by decide +kernel
theorem dX11_writeTarga_213 : decode cX11_writeTarga 213 = .ok (.bipush 8, 2) := by decide +kernel
theorem dX11_writeTarga_215 : decode cX11_writeTarga 215 = .ok (.goto 7, 3) := by decide +kernel
theorem dX11_writeTarga_218 : decode cX11_writeTarga 218 = .ok (.bipush 8, 2) := by decide +kernel
theorem dX11_writeTarga_220 : decode cX11_writeTarga 220 = .ok (.iload_n 3, 1) := by decide +kernel
theorem dX11_writeTarga_221 : decode cX11_writeTarga 221 = .ok (.imul, 1) := by decide +kernel
theorem dX11_writeTarga_222 : decode cX11_writeTarga 222 = .ok (.invokevirtual 280, 3) := by decide +kernel
theorem dX11_writeTarga_225 : decode cX11_writeTarga 225 = .ok (.aload_n 0, 1) := by decide +kernel
theorem dX11_writeTarga_226 : decode cX11_writeTarga 226 = .ok (.iload_n 3, 1) := by decide +kernel
theorem dX11_writeTarga_227 : decode cX11_writeTarga 227 = .ok (.iconst 4, 1) := by decide +kernel
theorem dX11_writeTarga_228 : decode cX11_writeTarga 228 = .ok (.if_icmp .ne 13, 3) := by decide +kernel
theorem dX11_writeTarga_231 : decode cX11_writeTarga 231 = .ok (.iload 5, 2) := by decide +kernel
theorem dX11_writeTarga_233 : decode cX11_writeTarga 233 = .ok (.ifCond .ne 8, 3) := by decide +kernel
theorem dX11_writeTarga_236 : decode cX11_writeTarga 236 = .ok (.bipush 40, 2) := by decide +kernel
theorem dX11_writeTarga_238 : decode cX11_writeTarga 238 = .ok (.goto 5, 3) := by decide +kernel
theorem dX11_writeTarga_241 : decode cX11_writeTarga 241 = .ok (.bipush 32, 2) := by decide +kernel
theorem dX11_writeTarga_243 : decode cX11_writeTarga 243 = .ok (.invokevirtual 280, 3) := by decide +kernel
theorem dX11_writeTarga_246 : decode cX11_writeTarga 246 = .ok (.iload 4, 2) := by decide +kernel
theorem dX11_writeTarga_248 : decode cX11_writeTarga 248 = .ok (.ifCond .eq 33, 3) := by decide +kernel
theorem dX11_writeTarga_251 : decode cX11_writeTarga 251 = .ok (.iconst 0, 1) := by decide +kernel
theorem dX11_writeTarga_252 : decode cX11_writeTarga 252 = .ok (.istore 6, 2) := by decide +kernel
theorem dX11_writeTarga_254 : decode cX11_writeTarga 254 = .ok (.iload 6, 2) := by decide +kernel
theorem dX11_writeTarga_256 : decode cX11_writeTarga 256 = .ok (.aload_n 0, 1) := by decide +kernel
theorem dX11_writeTarga_257 : decode cX11_writeTarga 257 = .ok (.getfield 262, 3) := by decide +kernel
theorem dX11_writeTarga_260 : decode cX11_writeTarga 260 = .ok (.if_icmp .ge 21, 3) := by decide +kernel
theorem dX11_writeTarga_263 : decode cX11_writeTarga 263 = .ok (.aload_n 0, 1) := by decide +kernel
theorem dX11_writeTarga_264 : decode cX11_writeTarga 264 = .ok (.aload_n 0, 1) := by decide +kernel
theorem dX11_writeTarga_265 : decode cX11_writeTarga 265 = .ok (.getfield 58, 3) := by decide +kernel
theorem dX11_writeTarga_268 : decode cX11_writeTarga 268 = .ok (.iload 6, 2) := by decide +kernel
theorem dX11_writeTarga_270 : decode cX11_writeTarga 270 = .ok (.iaload, 1) := by decide +kernel
theorem dX11_writeTarga_271 : decode cX11_writeTarga 271 = .ok (.iload_n 3, 1) := by decide +kernel
theorem dX11_writeTarga_272 : decode cX11_writeTarga 272 = .ok (.invokevirtual 299, 3) := by decide +kernel
theorem dX11_writeTarga_275 : decode cX11_writeTarga 275 = .ok (.iinc 6 1, 3) := by decide +kernel
theorem dX11_writeTarga_278 : decode cX11_writeTarga 278 = .ok (.goto (-24), 3) := by decide +kernel
theorem dX11_writeTarga_281 : decode cX11_writeTarga 281 = .ok (.iconst 0, 1) := by decide +kernel
theorem dX11_writeTarga_282 : decode cX11_writeTarga 282 = .ok (.istore 6, 2) := by decide +kernel
theorem dX11_writeTarga_284 : decode cX11_writeTarga 284 = .ok (.iload 6, 2) := by decide +kernel
theorem dX11_writeTarga_286 : decode cX11_writeTarga 286 = .ok (.aload_n 0, 1) := by decide +kernel
theorem dX11_writeTarga_287 : decode cX11_writeTarga 287 = .ok (.getfield 24, 3) := by decide +kernel
theorem dX11_writeTarga_290 : decode cX11_writeTarga 290 = .ok (.iload_n 1, 1) := by decide +kernel
theorem dX11_writeTarga_291 : decode cX11_writeTarga 291 = .ok (.iaload, 1) := by decide +kernel
theorem dX11_writeTarga_292 : decode cX11_writeTarga 292 = .ok (.if_icmp .ge 234, 3) := by decide +kernel
theorem dX11_writeTarga_295 : decode cX11_writeTarga 295 = .ok (.iconst 0, 1) := by decide +kernel
theorem dX11_writeTarga_296 : decode cX11_writeTarga 296 = .ok (.istore 7, 2) := by decide +kernel
theorem dX11_writeTarga_298 : decode cX11_writeTarga 298 = .ok (.iload 7, 2) := by decide +kernel
theorem dX11_writeTarga_300 : decode cX11_writeTarga 300 = .ok (.aload_n 0, 1) := by decide +kernel
theorem dX11_writeTarga_301 : decode cX11_writeTarga 301 = .ok (.getfield 21, 3) := by decide +kernel
theorem dX11_writeTarga_304 : decode cX11_writeTarga 304 = .ok (.iload_n 1, 1) := by decide +kernel
theorem dX11_writeTarga_305 : decode cX11_writeTarga 305 = .ok (.iaload, 1) := by decide +kernel
theorem dX11_writeTarga_306 : decode cX11_writeTarga 306 = .ok (.if_icmp .ge 214, 3) := by decide +kernel
theorem dX11_writeTarga_309 : decode cX11_writeTarga 309 = .ok (.iconst 1, 1) := by decide +kernel
theorem dX11_writeTarga_310 : decode cX11_writeTarga 310 = .ok (.istore 8, 2) := by decide +kernel
theorem dX11_writeTarga_312 : decode cX11_writeTarga 312 = .ok (.iconst 0, 1) := by decide +kernel
theorem dX11_writeTarga_313 : decode cX11_writeTarga 313 = .ok (.istore 9, 2) := by decide +kernel
theorem dX11_writeTarga_315 : decode cX11_writeTarga 315 = .ok (.iload_n 2, 1) := by decide +kernel
theorem dX11_writeTarga_316 : decode cX11_writeTarga 316 = .ok (.iconst 2, 1) := by decide +kernel
theorem dX11_writeTarga_317 : decode cX11_writeTarga 317 = .ok (.irem, 1) := by decide +kernel
theorem dX11_writeTarga_318 : decode cX11_writeTarga 318 = .ok (.iconst 1, 1) := by decide +kernel
theorem dX11_writeTarga_319 : decode cX11_writeTarga 319 = .ok (.if_icmp .ne 110, 3) := by decide +kernel
theorem dX11_writeTarga_322 : decode cX11_writeTarga 322 = .ok (.aload_n 0, 1) := by decide +kernel
theorem dX11_writeTarga_323 : decode cX11_writeTarga 323 = .ok (.iload_n 1, 1) := by decide +kernel
theorem dX11_writeTarga_324 : decode cX11_writeTarga 324 = .ok (.iload 7, 2) := by decide +kernel
theorem dX11_writeTarga_326 : decode cX11_writeTarga 326 = .ok (.iload 6, 2) := by decide +kernel
theorem dX11_writeTarga_328 : decode cX11_writeTarga 328 = .ok (.invokevirtual 305, 3) := by decide +kernel
theorem dX11_writeTarga_331 : decode cX11_writeTarga 331 = .ok (.istore 9, 2) := by decide +kernel
theorem dX11_writeTarga_333 : decode cX11_writeTarga 333 = .ok (.iload 8, 2) := by decide +kernel
theorem dX11_writeTarga_335 : decode cX11_writeTarga 335 = .ok (.sipush 128, 3) := by decide +kernel
theorem dX11_writeTarga_338 : decode cX11_writeTarga 338 = .ok (.if_icmp .ge 70, 3) := by decide +kernel
theorem dX11_writeTarga_341 : decode cX11_writeTarga 341 = .ok (.iload 7, 2) := by decide +kernel
theorem dX11_writeTarga_343 : decode cX11_writeTarga 343 = .ok (.iload 8, 2) := by decide +kernel
theorem dX11_writeTarga_345 : decode cX11_writeTarga 345 = .ok (.iadd, 1) := by decide +kernel
theorem dX11_writeTarga_346 : decode cX11_writeTarga 346 = .ok (.aload_n 0, 1) := by decide +kernel
theorem dX11_writeTarga_347 : decode cX11_writeTarga 347 = .ok (.getfield 21, 3) := by decide +kernel
theorem dX11_writeTarga_350 : decode cX11_writeTarga 350 = .ok (.iload_n 1, 1) := by decide +kernel
theorem dX11_writeTarga_351 : decode cX11_writeTarga 351 = .ok (.iaload, 1) := by decide +kernel
theorem dX11_writeTarga_352 : decode cX11_writeTarga 352 = .ok (.if_icmp .ge 56, 3) := by decide +kernel
theorem dX11_writeTarga_355 : decode cX11_writeTarga 355 = .ok (.iload 9, 2) := by decide +kernel
theorem dX11_writeTarga_357 : decode cX11_writeTarga 357 = .ok (.ifCond .eq 30, 3) := by decide +kernel
theorem dX11_writeTarga_360 : decode cX11_writeTarga 360 = .ok (.aload_n 0, 1) := by decide +kernel
theorem dX11_writeTarga_361 : decode cX11_writeTarga 361 = .ok (.iload_n 1, 1) := by decide +kernel
theorem dX11_writeTarga_362 : decode cX11_writeTarga 362 = .ok (.iload 7, 2) := by decide +kernel
theorem dX11_writeTarga_364 : decode cX11_writeTarga 364 = .ok (.iload 8, 2) := by decide +kernel
theorem dX11_writeTarga_366 : decode cX11_writeTarga 366 = .ok (.iadd, 1) := by decide +kernel
theorem dX11_writeTarga_367 : decode cX11_writeTarga 367 = .ok (.iload 6, 2) := by decide +kernel
theorem dX11_writeTarga_369 : decode cX11_writeTarga 369 = .ok (.invokevirtual 291, 3) := by decide +kernel
theorem dX11_writeTarga_372 : decode cX11_writeTarga 372 = .ok (.aload_n 0, 1) := by decide +kernel
theorem dX11_writeTarga_373 : decode cX11_writeTarga 373 = .ok (.iload_n 1, 1) := by decide +kernel
theorem dX11_writeTarga_374 : decode cX11_writeTarga 374 = .ok (.iload 7, 2) := by decide +kernel
theorem dX11_writeTarga_376 : decode cX11_writeTarga 376 = .ok (.iload 6, 2) := by decide +kernel
theorem dX11_writeTarga_378 : decode cX11_writeTarga 378 = .ok (.invokevirtual 291, 3) := by decide +kernel
theorem dX11_writeTarga_381 : decode cX11_writeTarga 381 = .ok (.if_icmp .ne 27, 3) := by decide +kernel
theorem dX11_writeTarga_384 : decode cX11_writeTarga 384 = .ok (.goto 18, 3) := by decide +kernel
theorem dX11_writeTarga_387 : decode cX11_writeTarga 387 = .ok (.aload_n 0, 1) := by decide +kernel
theorem dX11_writeTarga_388 : decode cX11_writeTarga 388 = .ok (.iload_n 1, 1) := by decide +kernel
theorem dX11_writeTarga_389 : decode cX11_writeTarga 389 = .ok (.iload 7, 2) := by decide +kernel
theorem dX11_writeTarga_391 : decode cX11_writeTarga 391 = .ok (.iload 8, 2) := by decide +kernel
theorem dX11_writeTarga_393 : decode cX11_writeTarga 393 = .ok (.iadd, 1) := by decide +kernel
theorem dX11_writeTarga_394 : decode cX11_writeTarga 394 = .ok (.iload 6, 2) := by decide +kernel
theorem dX11_writeTarga_396 : decode cX11_writeTarga 396 = .ok (.invokevirtual 305, 3) := by decide +kernel
theorem dX11_writeTarga_399 : decode cX11_writeTarga 399 = .ok (.ifCond .ne 9, 3) := by decide +kernel
theorem dX11_writeTarga_402 : decode cX11_writeTarga 402 = .ok (.iinc 8 1, 3) := by decide +kernel
theorem dX11_writeTarga_405 : decode cX11_writeTarga 405 = .ok (.goto (-72), 3) := by decide +kernel
theorem dX11_writeTarga_408 : decode cX11_writeTarga 408 = .ok (.aload_n 0, 1) := by decide +kernel
theorem dX11_writeTarga_409 : decode cX11_writeTarga 409 = .ok (.iload 9, 2) := by decide +kernel
theorem dX11_writeTarga_411 : decode cX11_writeTarga 411 = .ok (.ifCond .eq 11, 3) := by decide +kernel
theorem dX11_writeTarga_414 : decode cX11_writeTarga 414 = .ok (.bipush 127, 2) := by decide +kernel
theorem dX11_writeTarga_416 : decode cX11_writeTarga 416 = .ok (.iload 8, 2) := by decide +kernel
theorem dX11_writeTarga_418 : decode cX11_writeTarga 418 = .ok (.iadd, 1) := by decide +kernel
theorem dX11_writeTarga_419 : decode cX11_writeTarga 419 = .ok (.goto 7, 3) := by decide +kernel
theorem dX11_writeTarga_422 : decode cX11_writeTarga 422 = .ok (.iload 8, 2) := by decide +kernel
theorem dX11_writeTarga_424 : decode cX11_writeTarga 424 = .ok (.iconst 1, 1) := by decide +kernel
theorem dX11_writeTarga_425 : decode cX11_writeTarga 425 = .ok (.isub, 1) := by decide +kernel
theorem dX11_writeTarga_426 : decode cX11_writeTarga 426 = .ok (.invokevirtual 280, 3) := by decide +kernel
theorem dX11_writeTarga_429 : decode cX11_writeTarga 429 = .ok (.iconst 0, 1) := by decide +kernel
theorem dX11_writeTarga_430 : decode cX11_writeTarga 430 = .ok (.istore 10, 2) := by decide +kernel
theorem dX11_writeTarga_432 : decode cX11_writeTarga 432 = .ok (.iload 10, 2) := by decide +kernel
theorem dX11_writeTarga_434 : decode cX11_writeTarga 434 = .ok (.iload 9, 2) := by decide +kernel
theorem dX11_writeTarga_436 : decode cX11_writeTarga 436 = .ok (.ifCond .eq 7, 3) := by decide +kernel
theorem dX11_writeTarga_439 : decode cX11_writeTarga 439 = .ok (.iconst 1, 1) := by decide +kernel
theorem dX11_writeTarga_440 : decode cX11_writeTarga 440 = .ok (.goto 5, 3) := by decide +kernel
theorem dX11_writeTarga_443 : decode cX11_writeTarga 443 = .ok (.iload 8, 2) := by decide +kernel
theorem dX11_writeTarga_445 : decode cX11_writeTarga 445 = .ok (.if_icmp .ge 65, 3) := by decide +kernel
theorem dX11_writeTarga_448 : decode cX11_writeTarga 448 = .ok (.aload_n 0, 1) := by decide +kernel
theorem dX11_writeTarga_449 : decode cX11_writeTarga 449 = .ok (.iload_n 1, 1) := by decide +kernel
theorem dX11_writeTarga_450 : decode cX11_writeTarga 450 = .ok (.iload 7, 2) := by decide +kernel
theorem dX11_writeTarga_452 : decode cX11_writeTarga 452 = .ok (.iload 10, 2) := by decide +kernel
theorem dX11_writeTarga_454 : decode cX11_writeTarga 454 = .ok (.iadd, 1) := by decide +kernel
theorem dX11_writeTarga_455 : decode cX11_writeTarga 455 = .ok (.iload 6, 2) := by decide +kernel
theorem dX11_writeTarga_457 : decode cX11_writeTarga 457 = .ok (.invokevirtual 291, 3) := by decide +kernel
theorem dX11_writeTarga_460 : decode cX11_writeTarga 460 = .ok (.istore 11, 2) := by decide +kernel
theorem dX11_writeTarga_462 : decode cX11_writeTarga 462 = .ok (.iload 4, 2) := by decide +kernel
theorem dX11_writeTarga_464 : decode cX11_writeTarga 464 = .ok (.ifCond .eq 16, 3) := by decide +kernel
theorem dX11_writeTarga_467 : decode cX11_writeTarga 467 = .ok (.aload_n 0, 1) := by decide +kernel
theorem dX11_writeTarga_468 : decode cX11_writeTarga 468 = .ok (.aload_n 0, 1) := by decide +kernel
theorem dX11_writeTarga_469 : decode cX11_writeTarga 469 = .ok (.iload 11, 2) := by decide +kernel
theorem dX11_writeTarga_471 : decode cX11_writeTarga 471 = .ok (.invokevirtual 265, 3) := by decide +kernel
theorem dX11_writeTarga_474 : decode cX11_writeTarga 474 = .ok (.invokevirtual 280, 3) := by decide +kernel
theorem dX11_writeTarga_477 : decode cX11_writeTarga 477 = .ok (.goto 27, 3) := by decide +kernel
theorem dX11_writeTarga_480 : decode cX11_writeTarga 480 = .ok (.iload 5, 2) := by decide +kernel
theorem dX11_writeTarga_482 : decode cX11_writeTarga 482 = .ok (.ifCond .eq 15, 3) := by decide +kernel
theorem dX11_writeTarga_485 : decode cX11_writeTarga 485 = .ok (.aload_n 0, 1) := by decide +kernel
theorem dX11_writeTarga_486 : decode cX11_writeTarga 486 = .ok (.iload 11, 2) := by decide +kernel
theorem dX11_writeTarga_488 : decode cX11_writeTarga 488 = .ok (.bipush 8, 2) := by decide +kernel
theorem dX11_writeTarga_490 : decode cX11_writeTarga 490 = .ok (.ishr, 1) := by decide +kernel
theorem dX11_writeTarga_491 : decode cX11_writeTarga 491 = .ok (.invokevirtual 280, 3) := by decide +kernel
theorem dX11_writeTarga_494 : decode cX11_writeTarga 494 = .ok (.goto 10, 3) := by decide +kernel
theorem dX11_writeTarga_497 : decode cX11_writeTarga 497 = .ok (.aload_n 0, 1) := by decide +kernel
theorem dX11_writeTarga_498 : decode cX11_writeTarga 498 = .ok (.iload 11, 2) := by decide +kernel
theorem dX11_writeTarga_500 : decode cX11_writeTarga 500 = .ok (.iload_n 3, 1) := by decide +kernel
theorem dX11_writeTarga_501 : decode cX11_writeTarga 501 = .ok (.invokevirtual 299, 3) := by decide +kernel
theorem dX11_writeTarga_504 : decode cX11_writeTarga 504 = .ok (.iinc 10 1, 3) := by decide +kernel
theorem dX11_writeTarga_507 : decode cX11_writeTarga 507 = .ok (.goto (-75), 3) := by decide +kernel
theorem dX11_writeTarga_510 : decode cX11_writeTarga 510 = .ok (.iload 7, 2) := by decide +kernel
theorem dX11_writeTarga_512 : decode cX11_writeTarga 512 = .ok (.iload 8, 2) := by decide +kernel
theorem dX11_writeTarga_514 : decode cX11_writeTarga 514 = .ok (.iadd, 1) := by decide +kernel
theorem dX11_writeTarga_515 : decode cX11_writeTarga 515 = .ok (.istore 7, 2) := by decide +kernel
theorem dX11_writeTarga_517 : decode cX11_writeTarga 517 = .ok (.goto (-219), 3) := by decide +kernel
theorem dX11_writeTarga_520 : decode cX11_writeTarga 520 = .ok (.iinc 6 1, 3) := by decide +kernel
theorem dX11_writeTarga_523 : decode cX11_writeTarga 523 = .ok (.goto (-239), 3) := by decide +kernel
theorem dX11_writeTarga_526 : decode cX11_writeTarga 526 = .ok (.return_, 1) := by decide +kernel
theorem dX11_isLike_0 : decode cX11_isLike 0 = .ok (.iload_n 2, 1) := by decide +kernel
theorem dX11_isLike_1 : decode cX11_isLike 1 = .ok (.iconst 1, 1) := by decide +kernel
theorem dX11_isLike_2 : decode cX11_isLike 2 = .ok (.iadd, 1) := by decide +kernel
theorem dX11_isLike_3 : decode cX11_isLike 3 = .ok (.aload_n 0, 1) := by decide +kernel
theorem dX11_isLike_4 : decode cX11_isLike 4 = .ok (.getfield 21, 3) := by decide +kernel
theorem dX11_isLike_7 : decode cX11_isLike 7 = .ok (.iload_n 1, 1) := by decide +kernel
theorem dX11_isLike_8 : decode cX11_isLike 8 = .ok (.iaload, 1) := by decide +kernel
theorem dX11_isLike_9 : decode cX11_isLike 9 = .ok (.if_icmp .ge 26, 3) := by decide +kernel
theorem dX11_isLike_12 : decode cX11_isLike 12 = .ok (.aload_n 0, 1) := by decide +kernel
theorem dX11_isLike_13 : decode cX11_isLike 13 = .ok (.iload_n 1, 1) := by decide +kernel
theorem dX11_isLike_14 : decode cX11_isLike 14 = .ok (.iload_n 2, 1) := by decide +kernel
theorem dX11_isLike_15 : decode cX11_isLike 15 = .ok (.iconst 1, 1) := by decide +kernel
theorem dX11_isLike_16 : decode cX11_isLike 16 = .ok (.iadd, 1) := by decide +kernel
theorem dX11_isLike_17 : decode cX11_isLike 17 = .ok (.iload_n 3, 1) := by decide +kernel
theorem dX11_isLike_18 : decode cX11_isLike 18 = .ok (.invokevirtual 291, 3) := by decide +kernel
theorem dX11_isLike_21 : decode cX11_isLike 21 = .ok (.aload_n 0, 1) := by decide +kernel
theorem dX11_isLike_22 : decode cX11_isLike 22 = .ok (.iload_n 1, 1) := by decide +kernel
theorem dX11_isLike_23 : decode cX11_isLike 23 = .ok (.iload_n 2, 1) := by decide +kernel
theorem dX11_isLike_24 : decode cX11_isLike 24 = .ok (.iload_n 3, 1) := by decide +kernel
theorem dX11_isLike_25 : decode cX11_isLike 25 = .ok (.invokevirtual 291, 3) := by decide +kernel
theorem dX11_isLike_28 : decode cX11_isLike 28 = .ok (.if_icmp .ne 7, 3) := by decide +kernel
theorem dX11_isLike_31 : decode cX11_isLike 31 = .ok (.iconst 1, 1) := by decide +kernel
theorem dX11_isLike_32 : decode cX11_isLike 32 = .ok (.goto 4, 3) := by decide +kernel
theorem dX11_isLike_35 : decode cX11_isLike 35 = .ok (.iconst 0, 1) := by decide +kernel
theorem dX11_isLike_36 : decode cX11_isLike 36 = .ok (.ireturn, 1) := by decide +kernel
theorem dX11_writePlanes_0 : decode cX11_writePlanes 0 = .ok (.iload_n 2, 1) := by decide +kernel
theorem dX11_writePlanes_1 : decode cX11_writePlanes 1 = .ok (.bipush 16, 2) := by decide +kernel
theorem dX11_writePlanes_3 : decode cX11_writePlanes 3 = .ok (.if_icmp .ne 7, 3) := by decide +kernel
theorem dX11_writePlanes_6 : decode cX11_writePlanes 6 = .ok (.iconst 3, 1) := by decide +kernel
theorem dX11_writePlanes_7 : decode cX11_writePlanes 7 = .ok (.goto 4, 3) := by decide +kernel
theorem dX11_writePlanes_10 : decode cX11_writePlanes 10 = .ok (.iconst 1, 1) := by decide +kernel
theorem dX11_writePlanes_11 : decode cX11_writePlanes 11 = .ok (.istore_n 3, 1) := by decide +kernel
theorem dX11_writePlanes_12 : decode cX11_writePlanes 12 = .ok (.aload_n 0, 1) := by decide +kernel
theorem dX11_writePlanes_13 : decode cX11_writePlanes 13 = .ok (.getfield 21, 3) := by decide +kernel
theorem dX11_writePlanes_16 : decode cX11_writePlanes 16 = .ok (.iload_n 1, 1) := by decide +kernel
theorem dX11_writePlanes_17 : decode cX11_writePlanes 17 = .ok (.iaload, 1) := by decide +kernel
theorem dX11_writePlanes_18 : decode cX11_writePlanes 18 = .ok (.aload_n 0, 1) := by decide +kernel
theorem dX11_writePlanes_19 : decode cX11_writePlanes 19 = .ok (.getfield 21, 3) := by decide +kernel
theorem dX11_writePlanes_22 : decode cX11_writePlanes 22 = .ok (.iload_n 1, 1) := by decide +kernel
theorem dX11_writePlanes_23 : decode cX11_writePlanes 23 = .ok (.iaload, 1) := by decide +kernel
theorem dX11_writePlanes_24 : decode cX11_writePlanes 24 = .ok (.iconst 2, 1) := by decide +kernel
theorem dX11_writePlanes_25 : decode cX11_writePlanes 25 = .ok (.irem, 1) := by decide +kernel
theorem dX11_writePlanes_26 : decode cX11_writePlanes 26 = .ok (.iadd, 1) := by decide +kernel
theorem dX11_writePlanes_27 : decode cX11_writePlanes 27 = .ok (.istore 4, 2) := by decide +kernel
theorem dX11_writePlanes_29 : decode cX11_writePlanes 29 = .ok (.aload_n 0, 1) := by decide +kernel
theorem dX11_writePlanes_30 : decode cX11_writePlanes 30 = .ok (.bipush 10, 2) := by decide +kernel
theorem dX11_writePlanes_32 : decode cX11_writePlanes 32 = .ok (.invokevirtual 280, 3) := by decide +kernel
theorem dX11_writePlanes_35 : decode cX11_writePlanes 35 = .ok (.aload_n 0, 1) := by decide +kernel
theorem dX11_writePlanes_36 : decode cX11_writePlanes 36 = .ok (.iconst 5, 1) := by decide +kernel
theorem dX11_writePlanes_37 : decode cX11_writePlanes 37 = .ok (.invokevirtual 280, 3) := by decide +kernel
theorem dX11_writePlanes_40 : decode cX11_writePlanes 40 = .ok (.aload_n 0, 1) := by decide +kernel
theorem dX11_writePlanes_41 : decode cX11_writePlanes 41 = .ok (.iconst 1, 1) := by decide +kernel
theorem dX11_writePlanes_42 : decode cX11_writePlanes 42 = .ok (.invokevirtual 280, 3) := by decide +kernel
theorem dX11_writePlanes_45 : decode cX11_writePlanes 45 = .ok (.aload_n 0, 1) := by decide +kernel
theorem dX11_writePlanes_46 : decode cX11_writePlanes 46 = .ok (.bipush 8, 2) := by decide +kernel
theorem dX11_writePlanes_48 : decode cX11_writePlanes 48 = .ok (.invokevirtual 280, 3) := by decide +kernel
theorem dX11_writePlanes_51 : decode cX11_writePlanes 51 = .ok (.aload_n 0, 1) := by decide +kernel
theorem dX11_writePlanes_52 : decode cX11_writePlanes 52 = .ok (.iconst 0, 1) := by decide +kernel
theorem dX11_writePlanes_53 : decode cX11_writePlanes 53 = .ok (.iconst 4, 1) := by decide +kernel
theorem dX11_writePlanes_54 : decode cX11_writePlanes 54 = .ok (.invokevirtual 296, 3) := by decide +kernel
theorem dX11_writePlanes_57 : decode cX11_writePlanes 57 = .ok (.aload_n 0, 1) := by decide +kernel
theorem dX11_writePlanes_58 : decode cX11_writePlanes 58 = .ok (.aload_n 0, 1) := by decide +kernel
theorem dX11_writePlanes_59 : decode cX11_writePlanes 59 = .ok (.getfield 21, 3) := by decide +kernel
theorem dX11_writePlanes_62 : decode cX11_writePlanes 62 = .ok (.iload_n 1, 1) := by decide +kernel
theorem dX11_writePlanes_63 : decode cX11_writePlanes 63 = .ok (.iaload, 1) := by decide +kernel
theorem dX11_writePlanes_64 : decode cX11_writePlanes 64 = .ok (.iconst 1, 1) := by decide +kernel
theorem dX11_writePlanes_65 : decode cX11_writePlanes 65 = .ok (.isub, 1) := by decide +kernel
theorem dX11_writePlanes_66 : decode cX11_writePlanes 66 = .ok (.iconst 2, 1) := by decide +kernel
theorem dX11_writePlanes_67 : decode cX11_writePlanes 67 = .ok (.invokevirtual 296, 3) := by decide +kernel
theorem dX11_writePlanes_70 : decode cX11_writePlanes 70 = .ok (.aload_n 0, 1) := by decide +kernel
theorem dX11_writePlanes_71 : decode cX11_writePlanes 71 = .ok (.aload_n 0, 1) := by decide +kernel
theorem dX11_writePlanes_72 : decode cX11_writePlanes 72 = .ok (.getfield 24, 3) := by decide +kernel
theorem dX11_writePlanes_75 : decode cX11_writePlanes 75 = .ok (.iload_n 1, 1) := by decide +kernel
theorem dX11_writePlanes_76 : decode cX11_writePlanes 76 = .ok (.iaload, 1) := by decide +kernel
theorem dX11_writePlanes_77 : decode cX11_writePlanes 77 = .ok (.iconst 1, 1) := by decide +kernel
theorem dX11_writePlanes_78 : decode cX11_writePlanes 78 = .ok (.isub, 1) := by decide +kernel
theorem dX11_writePlanes_79 : decode cX11_writePlanes 79 = .ok (.iconst 2, 1) := by decide +kernel
theorem dX11_writePlanes_80 : decode cX11_writePlanes 80 = .ok (.invokevirtual 296, 3) := by decide +kernel
theorem dX11_writePlanes_83 : decode cX11_writePlanes 83 = .ok (.aload_n 0, 1) := by decide +kernel
theorem dX11_writePlanes_84 : decode cX11_writePlanes 84 = .ok (.bipush 72, 2) := by decide +kernel
theorem dX11_writePlanes_86 : decode cX11_writePlanes 86 = .ok (.iconst 2, 1) := by decide +kernel
theorem dX11_writePlanes_87 : decode cX11_writePlanes 87 = .ok (.invokevirtual 296, 3) := by decide +kernel
theorem dX11_writePlanes_90 : decode cX11_writePlanes 90 = .ok (.aload_n 0, 1) := by decide +kernel
theorem dX11_writePlanes_91 : decode cX11_writePlanes 91 = .ok (.bipush 72, 2) := by decide +kernel
theorem dX11_writePlanes_93 : decode cX11_writePlanes 93 = .ok (.iconst 2, 1) := by decide +kernel
theorem dX11_writePlanes_94 : decode cX11_writePlanes 94 = .ok (.invokevirtual 296, 3) := by decide +kernel
theorem dX11_writePlanes_97 : decode cX11_writePlanes 97 = .ok (.iconst 0, 1) := by decide +kernel
theorem dX11_writePlanes_98 : decode cX11_writePlanes 98 = .ok (.istore 5, 2) := by decide +kernel
theorem dX11_writePlanes_100 : decode cX11_writePlanes 100 = .ok (.iload 5, 2) := by decide +kernel
theorem dX11_writePlanes_102 : decode cX11_writePlanes 102 = .ok (.bipush 49, 2) := by decide +kernel
theorem dX11_writePlanes_104 : decode cX11_writePlanes 104 = .ok (.if_icmp .ge 14, 3) := by decide +kernel
theorem dX11_writePlanes_107 : decode cX11_writePlanes 107 = .ok (.aload_n 0, 1) := by decide +kernel
theorem dX11_writePlanes_108 : decode cX11_writePlanes 108 = .ok (.iconst 0, 1) := by decide +kernel
theorem dX11_writePlanes_109 : decode cX11_writePlanes 109 = .ok (.invokevirtual 280, 3) := by decide +kernel
theorem dX11_writePlanes_112 : decode cX11_writePlanes 112 = .ok (.iinc 5 1, 3) := by decide +kernel
theorem dX11_writePlanes_115 : decode cX11_writePlanes 115 = .ok (.goto (-15), 3) := by decide +kernel
theorem dX11_writePlanes_118 : decode cX11_writePlanes 118 = .ok (.aload_n 0, 1) := by decide +kernel
theorem dX11_writePlanes_119 : decode cX11_writePlanes 119 = .ok (.iload_n 3, 1) := by decide +kernel
theorem dX11_writePlanes_120 : decode cX11_writePlanes 120 = .ok (.invokevirtual 280, 3) := by decide +kernel
theorem dX11_writePlanes_123 : decode cX11_writePlanes 123 = .ok (.aload_n 0, 1) := by decide +kernel
theorem dX11_writePlanes_124 : decode cX11_writePlanes 124 = .ok (.iload 4, 2) := by decide +kernel
theorem dX11_writePlanes_126 : decode cX11_writePlanes 126 = .ok (.iconst 2, 1) := by decide +kernel
theorem dX11_writePlanes_127 : decode cX11_writePlanes 127 = .ok (.invokevirtual 296, 3) := by decide +kernel
theorem dX11_writePlanes_130 : decode cX11_writePlanes 130 = .ok (.aload_n 0, 1) := by decide +kernel
theorem dX11_writePlanes_131 : decode cX11_writePlanes 131 = .ok (.iconst 1, 1) := by decide +kernel
theorem dX11_writePlanes_132 : decode cX11_writePlanes 132 = .ok (.invokevirtual 280, 3) := by decide +kernel
theorem dX11_writePlanes_135 : decode cX11_writePlanes 135 = .ok (.iconst 0, 1) := by decide +kernel
theorem dX11_writePlanes_136 : decode cX11_writePlanes 136 = .ok (.istore 5, 2) := by decide +kernel
theorem dX11_writePlanes_138 : decode cX11_writePlanes 138 = .ok (.iload 5, 2) := by decide +kernel
theorem dX11_writePlanes_140 : decode cX11_writePlanes 140 = .ok (.bipush 59, 2) := by decide +kernel
theorem dX11_writePlanes_142 : decode cX11_writePlanes 142 = .ok (.if_icmp .ge 14, 3) := by decide +kernel
theorem dX11_writePlanes_145 : decode cX11_writePlanes 145 = .ok (.aload_n 0, 1) := by decide +kernel
theorem dX11_writePlanes_146 : decode cX11_writePlanes 146 = .ok (.iconst 0, 1) := by decide +kernel
theorem dX11_writePlanes_147 : decode cX11_writePlanes 147 = .ok (.invokevirtual 280, 3) := by decide +kernel
theorem dX11_writePlanes_150 : decode cX11_writePlanes 150 = .ok (.iinc 5 1, 3) := by decide +kernel
theorem dX11_writePlanes_153 : decode cX11_writePlanes 153 = .ok (.goto (-15), 3) := by decide +kernel
theorem dX11_writePlanes_156 : decode cX11_writePlanes 156 = .ok (.iload_n 2, 1) := by decide +kernel
theorem dX11_writePlanes_157 : decode cX11_writePlanes 157 = .ok (.bipush 17, 2) := by decide +kernel
theorem dX11_writePlanes_159 : decode cX11_writePlanes 159 = .ok (.if_icmp .ne 8, 3) := by decide +kernel
theorem dX11_writePlanes_162 : decode cX11_writePlanes 162 = .ok (.aload_n 0, 1) := by decide +kernel
theorem dX11_writePlanes_163 : decode cX11_writePlanes 163 = .ok (.iload_n 1, 1) := by decide +kernel
theorem dX11_writePlanes_164 : decode cX11_writePlanes 164 = .ok (.invokevirtual 293, 3) := by decide +kernel
theorem dX11_writePlanes_167 : decode cX11_writePlanes 167 = .ok (.iconst 0, 1) := by decide +kernel
theorem dX11_writePlanes_168 : decode cX11_writePlanes 168 = .ok (.istore 5, 2) := by decide +kernel
theorem dX11_writePlanes_170 : decode cX11_writePlanes 170 = .ok (.iload 5, 2) := by decide +kernel
theorem dX11_writePlanes_172 : decode cX11_writePlanes 172 = .ok (.aload_n 0, 1) := by decide +kernel
theorem dX11_writePlanes_173 : decode cX11_writePlanes 173 = .ok (.getfield 24, 3) := by decide +kernel
theorem dX11_writePlanes_176 : decode cX11_writePlanes 176 = .ok (.iload_n 1, 1) := by decide +kernel
theorem dX11_writePlanes_177 : decode cX11_writePlanes 177 = .ok (.iaload, 1) := by decide +kernel
theorem dX11_writePlanes_178 : decode cX11_writePlanes 178 = .ok (.if_icmp .ge 134, 3) := by decide +kernel
theorem dX11_writePlanes_181 : decode cX11_writePlanes 181 = .ok (.iconst 0, 1) := by decide +kernel
theorem dX11_writePlanes_182 : decode cX11_writePlanes 182 = .ok (.istore 6, 2) := by decide +kernel
theorem dX11_writePlanes_184 : decode cX11_writePlanes 184 = .ok (.iload 6, 2) := by decide +kernel
theorem dX11_writePlanes_186 : decode cX11_writePlanes 186 = .ok (.iload_n 3, 1) := by decide +kernel
theorem dX11_writePlanes_187 : decode cX11_writePlanes 187 = .ok (.if_icmp .ge 119, 3) := by decide +kernel
theorem dX11_writePlanes_190 : decode cX11_writePlanes 190 = .ok (.iconst 0, 1) := by decide +kernel
theorem dX11_writePlanes_191 : decode cX11_writePlanes 191 = .ok (.istore 7, 2) := by decide +kernel
theorem dX11_writePlanes_193 : decode cX11_writePlanes 193 = .ok (.iload 7, 2) := by decide +kernel
theorem dX11_writePlanes_195 : decode cX11_writePlanes 195 = .ok (.iload 4, 2) := by decide +kernel
theorem dX11_writePlanes_197 : decode cX11_writePlanes 197 = .ok (.if_icmp .ge 103, 3) := by decide +kernel
theorem dX11_writePlanes_200 : decode cX11_writePlanes 200 = .ok (.aload_n 0, 1) := by decide +kernel
theorem dX11_writePlanes_201 : decode cX11_writePlanes 201 = .ok (.iload_n 1, 1) := by decide +kernel
theorem dX11_writePlanes_202 : decode cX11_writePlanes 202 = .ok (.iload 7, 2) := by decide +kernel
theorem dX11_writePlanes_204 : decode cX11_writePlanes 204 = .ok (.iload 5, 2) := by decide +kernel
theorem dX11_writePlanes_206 : decode cX11_writePlanes 206 = .ok (.iload 6, 2) := by decide +kernel
theorem dX11_writePlanes_208 : decode cX11_writePlanes 208 = .ok (.iload_n 3, 1) := by decide +kernel
theorem dX11_writePlanes_209 : decode cX11_writePlanes 209 = .ok (.invokevirtual 309, 3) := by decide +kernel
theorem dX11_writePlanes_212 : decode cX11_writePlanes 212 = .ok (.istore 8, 2) := by decide +kernel
theorem dX11_writePlanes_214 : decode cX11_writePlanes 214 = .ok (.iconst 1, 1) := by decide +kernel
theorem dX11_writePlanes_215 : decode cX11_writePlanes 215 = .ok (.istore 9, 2) := by decide +kernel
theorem dX11_writePlanes_217 : decode cX11_writePlanes 217 = .ok (.iload 9, 2) := by decide +kernel
theorem dX11_writePlanes_219 : decode cX11_writePlanes 219 = .ok (.bipush 63, 2) := by decide +kernel
theorem dX11_writePlanes_221 : decode cX11_writePlanes 221 = .ok (.if_icmp .ge 39, 3) := by decide +kernel
theorem dX11_writePlanes_224 : decode cX11_writePlanes 224 = .ok (.iload 7, 2) := by decide +kernel
theorem dX11_writePlanes_226 : decode cX11_writePlanes 226 = .ok (.iload 9, 2) := by decide +kernel
theorem dX11_writePlanes_228 : decode cX11_writePlanes 228 = .ok (.iadd, 1) := by decide +kernel
theorem dX11_writePlanes_229 : decode cX11_writePlanes 229 = .ok (.iload 4, 2) := by decide +kernel
theorem dX11_writePlanes_231 : decode cX11_writePlanes 231 = .ok (.if_icmp .ge 29, 3) := by decide +kernel
theorem dX11_writePlanes_234 : decode cX11_writePlanes 234 = .ok (.aload_n 0, 1) := by decide +kernel
theorem dX11_writePlanes_235 : decode cX11_writePlanes 235 = .ok (.iload_n 1, 1) := by decide +kernel
theorem dX11_writePlanes_236 : decode cX11_writePlanes 236 = .ok (.iload 7, 2) := by decide +kernel
theorem dX11_writePlanes_238 : decode cX11_writePlanes 238 = .ok (.iload 9, 2) := by decide +kernel
theorem dX11_writePlanes_240 : decode cX11_writePlanes 240 = .ok (.iadd, 1) := by decide +kernel
