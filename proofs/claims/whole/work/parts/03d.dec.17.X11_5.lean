theorem dX11_readPlanes_613 : decode cX11_readPlanes 613 = .ok (.istore 10, 2) := by decide +kernel
theorem dX11_readPlanes_615 : decode cX11_readPlanes 615 = .ok (.iload 10, 2) := by decide +kernel
theorem dX11_readPlanes_617 : decode cX11_readPlanes 617 = .ok (.aload_n 0, 1) := by decide +kernel
theorem dX11_readPlanes_618 : decode cX11_readPlanes 618 = .ok (.getfield 109, 3) := by decide +kernel
theorem dX11_readPlanes_621 : decode cX11_readPlanes 621 = .ok (.aload_n 0, 1) := by decide +kernel
theorem dX11_readPlanes_622 : decode cX11_readPlanes 622 = .ok (.getfield 112, 3) := by decide +kernel
theorem dX11_readPlanes_625 : decode cX11_readPlanes 625 = .ok (.imul, 1) := by decide +kernel
theorem dX11_readPlanes_626 : decode cX11_readPlanes 626 = .ok (.if_icmp .ge 60, 3) := by decide +kernel
theorem dX11_readPlanes_629 : decode cX11_readPlanes 629 = .ok (.aload_n 0, 1) := by decide +kernel
theorem dX11_readPlanes_630 : decode cX11_readPlanes 630 = .ok (.getfield 84, 3) := by decide +kernel
theorem dX11_readPlanes_633 : decode cX11_readPlanes 633 = .ok (.iconst 3, 1) := by decide +kernel
theorem dX11_readPlanes_634 : decode cX11_readPlanes 634 = .ok (.aload_n 0, 1) := by decide +kernel
theorem dX11_readPlanes_635 : decode cX11_readPlanes 635 = .ok (.getfield 27, 3) := by decide +kernel
theorem dX11_readPlanes_638 : decode cX11_readPlanes 638 = .ok (.iload 10, 2) := by decide +kernel
theorem dX11_readPlanes_640 : decode cX11_readPlanes 640 = .ok (.iaload, 1) := by decide +kernel
theorem dX11_readPlanes_641 : decode cX11_readPlanes 641 = .ok (.imul, 1) := by decide +kernel
theorem dX11_readPlanes_642 : decode cX11_readPlanes 642 = .ok (.iadd, 1) := by decide +kernel
theorem dX11_readPlanes_643 : decode cX11_readPlanes 643 = .ok (.istore 11, 2) := by decide +kernel
theorem dX11_readPlanes_645 : decode cX11_readPlanes 645 = .ok (.aload_n 0, 1) := by decide +kernel
theorem dX11_readPlanes_646 : decode cX11_readPlanes 646 = .ok (.getfield 27, 3) := by decide +kernel
theorem dX11_readPlanes_649 : decode cX11_readPlanes 649 = .ok (.iload 10, 2) := by decide +kernel
theorem dX11_readPlanes_651 : decode cX11_readPlanes 651 = .ok (.aload_n 0, 1) := by decide +kernel
theorem dX11_readPlanes_652 : decode cX11_readPlanes 652 = .ok (.iload 11, 2) := by decide +kernel
theorem dX11_readPlanes_654 : decode cX11_readPlanes 654 = .ok (.invokevirtual 99, 3) := by decide +kernel
theorem dX11_readPlanes_657 : decode cX11_readPlanes 657 = .ok (.aload_n 0, 1) := by decide +kernel
theorem dX11_readPlanes_658 : decode cX11_readPlanes 658 = .ok (.iload 11, 2) := by decide +kernel
theorem dX11_readPlanes_660 : decode cX11_readPlanes 660 = .ok (.iconst 1, 1) := by decide +kernel
theorem dX11_readPlanes_661 : decode cX11_readPlanes 661 = .ok (.iadd, 1) := by decide +kernel
theorem dX11_readPlanes_662 : decode cX11_readPlanes 662 = .ok (.invokevirtual 99, 3) := by decide +kernel
theorem dX11_readPlanes_665 : decode cX11_readPlanes 665 = .ok (.aload_n 0, 1) := by decide +kernel
theorem dX11_readPlanes_666 : decode cX11_readPlanes 666 = .ok (.iload 11, 2) := by decide +kernel
theorem dX11_readPlanes_668 : decode cX11_readPlanes 668 = .ok (.iconst 2, 1) := by decide +kernel
theorem dX11_readPlanes_669 : decode cX11_readPlanes 669 = .ok (.iadd, 1) := by decide +kernel
theorem dX11_readPlanes_670 : decode cX11_readPlanes 670 = .ok (.invokevirtual 99, 3) := by decide +kernel
theorem dX11_readPlanes_673 : decode cX11_readPlanes 673 = .ok (.sipush 255, 3) := by decide +kernel
theorem dX11_readPlanes_676 : decode cX11_readPlanes 676 = .ok (.invokestatic 115, 3) := by decide +kernel
theorem dX11_readPlanes_679 : decode cX11_readPlanes 679 = .ok (.iastore, 1) := by decide +kernel
theorem dX11_readPlanes_680 : decode cX11_readPlanes 680 = .ok (.iinc 10 1, 3) := by decide +kernel
theorem dX11_readPlanes_683 : decode cX11_readPlanes 683 = .ok (.goto (-68), 3) := by decide +kernel
theorem dX11_readPlanes_686 : decode cX11_readPlanes 686 = .ok (.aload_n 0, 1) := by decide +kernel
theorem dX11_readPlanes_687 : decode cX11_readPlanes 687 = .ok (.dup, 1) := by decide +kernel
theorem dX11_readPlanes_688 : decode cX11_readPlanes 688 = .ok (.getfield 84, 3) := by decide +kernel
theorem dX11_readPlanes_691 : decode cX11_readPlanes 691 = .ok (.sipush 768, 3) := by decide +kernel
theorem dX11_readPlanes_694 : decode cX11_readPlanes 694 = .ok (.iadd, 1) := by decide +kernel
theorem dX11_readPlanes_695 : decode cX11_readPlanes 695 = .ok (.putfield 84, 3) := by decide +kernel
theorem dX11_readPlanes_698 : decode cX11_readPlanes 698 = .ok (.aload_n 0, 1) := by decide +kernel
theorem dX11_readPlanes_699 : decode cX11_readPlanes 699 = .ok (.iload_n 2, 1) := by decide +kernel
theorem dX11_readPlanes_700 : decode cX11_readPlanes 700 = .ok (.putfield 130, 3) := by decide +kernel
theorem dX11_readPlanes_703 : decode cX11_readPlanes 703 = .ok (.aload_n 0, 1) := by decide +kernel
theorem dX11_readPlanes_704 : decode cX11_readPlanes 704 = .ok (.iload 7, 2) := by decide +kernel
theorem dX11_readPlanes_706 : decode cX11_readPlanes 706 = .ok (.putfield 133, 3) := by decide +kernel
theorem dX11_readPlanes_709 : decode cX11_readPlanes 709 = .ok (.aload_n 0, 1) := by decide +kernel
theorem dX11_readPlanes_710 : decode cX11_readPlanes 710 = .ok (.iload 8, 2) := by decide +kernel
theorem dX11_readPlanes_712 : decode cX11_readPlanes 712 = .ok (.putfield 136, 3) := by decide +kernel
theorem dX11_readPlanes_715 : decode cX11_readPlanes 715 = .ok (.aload_n 0, 1) := by decide +kernel
theorem dX11_readPlanes_716 : decode cX11_readPlanes 716 = .ok (.invokevirtual 145, 3) := by decide +kernel
theorem dX11_readPlanes_719 : decode cX11_readPlanes 719 = .ok (.ireturn, 1) := by decide +kernel
theorem dX11_readLine_0 : decode cX11_readLine 0 = .ok (.iload_n 3, 1) := by decide +kernel
theorem dX11_readLine_1 : decode cX11_readLine 1 = .ok (.iload 4, 2) := by decide +kernel
theorem dX11_readLine_3 : decode cX11_readLine 3 = .ok (.imul, 1) := by decide +kernel
theorem dX11_readLine_4 : decode cX11_readLine 4 = .ok (.istore 6, 2) := by decide +kernel
theorem dX11_readLine_6 : decode cX11_readLine 6 = .ok (.iconst 0, 1) := by decide +kernel
theorem dX11_readLine_7 : decode cX11_readLine 7 = .ok (.istore 7, 2) := by decide +kernel
theorem dX11_readLine_9 : decode cX11_readLine 9 = .ok (.iload 7, 2) := by decide +kernel
theorem dX11_readLine_11 : decode cX11_readLine 11 = .ok (.iload 6, 2) := by decide +kernel
theorem dX11_readLine_13 : decode cX11_readLine 13 = .ok (.if_icmp .ge 171, 3) := by decide +kernel
theorem dX11_readLine_16 : decode cX11_readLine 16 = .ok (.aload_n 0, 1) := by decide +kernel
theorem dX11_readLine_17 : decode cX11_readLine 17 = .ok (.iconst 1, 1) := by decide +kernel
theorem dX11_readLine_18 : decode cX11_readLine 18 = .ok (.invokevirtual 103, 3) := by decide +kernel
theorem dX11_readLine_21 : decode cX11_readLine 21 = .ok (.ifCond .ne 5, 3) := by decide +kernel
theorem dX11_readLine_24 : decode cX11_readLine 24 = .ok (.iconst 0, 1) := by decide +kernel
theorem dX11_readLine_25 : decode cX11_readLine 25 = .ok (.ireturn, 1) := by decide +kernel
theorem dX11_readLine_26 : decode cX11_readLine 26 = .ok (.aload_n 0, 1) := by decide +kernel
theorem dX11_readLine_27 : decode cX11_readLine 27 = .ok (.aload_n 0, 1) := by decide +kernel
theorem dX11_readLine_28 : decode cX11_readLine 28 = .ok (.getfield 84, 3) := by decide +kernel
theorem dX11_readLine_31 : decode cX11_readLine 31 = .ok (.invokevirtual 99, 3) := by decide +kernel
theorem dX11_readLine_34 : decode cX11_readLine 34 = .ok (.istore 8, 2) := by decide +kernel
theorem dX11_readLine_36 : decode cX11_readLine 36 = .ok (.iload 8, 2) := by decide +kernel
theorem dX11_readLine_38 : decode cX11_readLine 38 = .ok (.sipush 192, 3) := by decide +kernel
theorem dX11_readLine_41 : decode cX11_readLine 41 = .ok (.if_icmp .ge 7, 3) := by decide +kernel
theorem dX11_readLine_44 : decode cX11_readLine 44 = .ok (.iconst 1, 1) := by decide +kernel
theorem dX11_readLine_45 : decode cX11_readLine 45 = .ok (.goto 9, 3) := by decide +kernel
theorem dX11_readLine_48 : decode cX11_readLine 48 = .ok (.iload 8, 2) := by decide +kernel
theorem dX11_readLine_50 : decode cX11_readLine 50 = .ok (.sipush 192, 3) := by decide +kernel
theorem dX11_readLine_53 : decode cX11_readLine 53 = .ok (.isub, 1) := by decide +kernel
theorem dX11_readLine_54 : decode cX11_readLine 54 = .ok (.istore 9, 2) := by decide +kernel
theorem dX11_readLine_56 : decode cX11_readLine 56 = .ok (.iload 9, 2) := by decide +kernel
theorem dX11_readLine_58 : decode cX11_readLine 58 = .ok (.ifCond .eq 13, 3) := by decide +kernel
theorem dX11_readLine_61 : decode cX11_readLine 61 = .ok (.iload 7, 2) := by decide +kernel
theorem dX11_readLine_63 : decode cX11_readLine 63 = .ok (.iload 9, 2) := by decide +kernel
theorem dX11_readLine_65 : decode cX11_readLine 65 = .ok (.iadd, 1) := by decide +kernel
theorem dX11_readLine_66 : decode cX11_readLine 66 = .ok (.iload 6, 2) := by decide +kernel
theorem dX11_readLine_68 : decode cX11_readLine 68 = .ok (.if_icmp .le 13, 3) := by decide +kernel
theorem dX11_readLine_71 : decode cX11_readLine 71 = .ok (.aload_n 0, 1) := by decide +kernel
theorem dX11_readLine_72 : decode cX11_readLine 72 = .ok (.iconst 4, 1) := by decide +kernel
theorem dX11_readLine_73 : decode cX11_readLine 73 = .ok (.aload_n 0, 1) := by decide +kernel
theorem dX11_readLine_74 : decode cX11_readLine 74 = .ok (.getfield 84, 3) := by decide +kernel
theorem dX11_readLine_77 : decode cX11_readLine 77 = .ok (.invokevirtual 90, 3) := by decide +kernel
theorem dX11_readLine_80 : decode cX11_readLine 80 = .ok (.ireturn, 1) := by decide +kernel
theorem dX11_readLine_81 : decode cX11_readLine 81 = .ok (.aload_n 0, 1) := by decide +kernel
theorem dX11_readLine_82 : decode cX11_readLine 82 = .ok (.dup, 1) := by decide +kernel
theorem dX11_readLine_83 : decode cX11_readLine 83 = .ok (.getfield 84, 3) := by decide +kernel
theorem dX11_readLine_86 : decode cX11_readLine 86 = .ok (.iconst 1, 1) := by decide +kernel
theorem dX11_readLine_87 : decode cX11_readLine 87 = .ok (.iadd, 1) := by decide +kernel
theorem dX11_readLine_88 : decode cX11_readLine 88 = .ok (.putfield 84, 3) := by decide +kernel
theorem dX11_readLine_91 : decode cX11_readLine 91 = .ok (.iload 8, 2) := by decide +kernel
theorem dX11_readLine_93 : decode cX11_readLine 93 = .ok (.sipush 192, 3) := by decide +kernel
theorem dX11_readLine_96 : decode cX11_readLine 96 = .ok (.if_icmp .lt 33, 3) := by decide +kernel
theorem dX11_readLine_99 : decode cX11_readLine 99 = .ok (.aload_n 0, 1) := by decide +kernel
theorem dX11_readLine_100 : decode cX11_readLine 100 = .ok (.iconst 1, 1) := by decide +kernel
theorem dX11_readLine_101 : decode cX11_readLine 101 = .ok (.invokevirtual 103, 3) := by decide +kernel
theorem dX11_readLine_104 : decode cX11_readLine 104 = .ok (.ifCond .ne 5, 3) := by decide +kernel
theorem dX11_readLine_107 : decode cX11_readLine 107 = .ok (.iconst 0, 1) := by decide +kernel
theorem dX11_readLine_108 : decode cX11_readLine 108 = .ok (.ireturn, 1) := by decide +kernel
theorem dX11_readLine_109 : decode cX11_readLine 109 = .ok (.aload_n 0, 1) := by decide +kernel
theorem dX11_readLine_110 : decode cX11_readLine 110 = .ok (.aload_n 0, 1) := by decide +kernel
theorem dX11_readLine_111 : decode cX11_readLine 111 = .ok (.getfield 84, 3) := by decide +kernel
theorem dX11_readLine_114 : decode cX11_readLine 114 = .ok (.invokevirtual 99, 3) := by decide +kernel
theorem dX11_readLine_117 : decode cX11_readLine 117 = .ok (.istore 8, 2) := by decide +kernel
theorem dX11_readLine_119 : decode cX11_readLine 119 = .ok (.aload_n 0, 1) := by decide +kernel
theorem dX11_readLine_120 : decode cX11_readLine 120 = .ok (.dup, 1) := by decide +kernel
theorem dX11_readLine_121 : decode cX11_readLine 121 = .ok (.getfield 84, 3) := by decide +kernel
theorem dX11_readLine_124 : decode cX11_readLine 124 = .ok (.iconst 1, 1) := by decide +kernel
theorem dX11_readLine_125 : decode cX11_readLine 125 = .ok (.iadd, 1) := by decide +kernel
theorem dX11_readLine_126 : decode cX11_readLine 126 = .ok (.putfield 84, 3) := by decide +kernel
theorem dX11_readLine_129 : decode cX11_readLine 129 = .ok (.iconst 0, 1) := by decide +kernel
theorem dX11_readLine_130 : decode cX11_readLine 130 = .ok (.istore 10, 2) := by decide +kernel
theorem dX11_readLine_132 : decode cX11_readLine 132 = .ok (.iload 10, 2) := by decide +kernel
theorem dX11_readLine_134 : decode cX11_readLine 134 = .ok (.iload 9, 2) := by decide +kernel
theorem dX11_readLine_136 : decode cX11_readLine 136 = .ok (.if_icmp .ge 45, 3) := by decide +kernel
theorem dX11_readLine_139 : decode cX11_readLine 139 = .ok (.iload 7, 2) := by decide +kernel
theorem dX11_readLine_141 : decode cX11_readLine 141 = .ok (.iload 4, 2) := by decide +kernel
theorem dX11_readLine_143 : decode cX11_readLine 143 = .ok (.irem, 1) := by decide +kernel
theorem dX11_readLine_144 : decode cX11_readLine 144 = .ok (.iload 5, 2) := by decide +kernel
theorem dX11_readLine_146 : decode cX11_readLine 146 = .ok (.if_icmp .ge 26, 3) := by decide +kernel
theorem dX11_readLine_149 : decode cX11_readLine 149 = .ok (.aload_n 0, 1) := by decide +kernel
theorem dX11_readLine_150 : decode cX11_readLine 150 = .ok (.getfield 52, 3) := by decide +kernel
theorem dX11_readLine_153 : decode cX11_readLine 153 = .ok (.sipush 4096, 3) := by decide +kernel
theorem dX11_readLine_156 : decode cX11_readLine 156 = .ok (.iload 7, 2) := by decide +kernel
theorem dX11_readLine_158 : decode cX11_readLine 158 = .ok (.iload 4, 2) := by decide +kernel
theorem dX11_readLine_160 : decode cX11_readLine 160 = .ok (.idiv, 1) := by decide +kernel
theorem dX11_readLine_161 : decode cX11_readLine 161 = .ok (.imul, 1) := by decide +kernel
theorem dX11_readLine_162 : decode cX11_readLine 162 = .ok (.iload 7, 2) := by decide +kernel
theorem dX11_readLine_164 : decode cX11_readLine 164 = .ok (.iload 4, 2) := by decide +kernel
theorem dX11_readLine_166 : decode cX11_readLine 166 = .ok (.irem, 1) := by decide +kernel
theorem dX11_readLine_167 : decode cX11_readLine 167 = .ok (.iadd, 1) := by decide +kernel
theorem dX11_readLine_168 : decode cX11_readLine 168 = .ok (.iload 8, 2) := by decide +kernel
theorem dX11_readLine_170 : decode cX11_readLine 170 = .ok (.i2b, 1) := by decide +kernel
theorem dX11_readLine_171 : decode cX11_readLine 171 = .ok (.bastore, 1) := by decide +kernel
theorem dX11_readLine_172 : decode cX11_readLine 172 = .ok (.iinc 7 1, 3) := by decide +kernel
theorem dX11_readLine_175 : decode cX11_readLine 175 = .ok (.iinc 10 1, 3) := by decide +kernel
theorem dX11_readLine_178 : decode cX11_readLine 178 = .ok (.goto (-46), 3) := by decide +kernel
theorem dX11_readLine_181 : decode cX11_readLine 181 = .ok (.goto (-172), 3) := by decide +kernel
theorem dX11_readLine_184 : decode cX11_readLine 184 = .ok (.iconst 0, 1) := by decide +kernel
theorem dX11_readLine_185 : decode cX11_readLine 185 = .ok (.istore 8, 2) := by decide +kernel
theorem dX11_readLine_187 : decode cX11_readLine 187 = .ok (.iload 8, 2) := by decide +kernel
theorem dX11_readLine_189 : decode cX11_readLine 189 = .ok (.aload_n 0, 1) := by decide +kernel
theorem dX11_readLine_190 : decode cX11_readLine 190 = .ok (.getfield 109, 3) := by decide +kernel
theorem dX11_readLine_193 : decode cX11_readLine 193 = .ok (.if_icmp .ge 214, 3) := by decide +kernel
theorem dX11_readLine_196 : decode cX11_readLine 196 = .ok (.aload_n 0, 1) := by decide +kernel
theorem dX11_readLine_197 : decode cX11_readLine 197 = .ok (.getfield 109, 3) := by decide +kernel
theorem dX11_readLine_200 : decode cX11_readLine 200 = .ok (.iload_n 1, 1) := by decide +kernel
theorem dX11_readLine_201 : decode cX11_readLine 201 = .ok (.imul, 1) := by decide +kernel
theorem dX11_readLine_202 : decode cX11_readLine 202 = .ok (.iload 8, 2) := by decide +kernel
theorem dX11_readLine_204 : decode cX11_readLine 204 = .ok (.iadd, 1) := by decide +kernel
theorem dX11_readLine_205 : decode cX11_readLine 205 = .ok (.istore 9, 2) := by decide +kernel
theorem dX11_readLine_207 : decode cX11_readLine 207 = .ok (.iload_n 2, 1) := by decide +kernel
theorem dX11_readLine_208 : decode cX11_readLine 208 = .ok (.bipush 8, 2) := by decide +kernel
theorem dX11_readLine_210 : decode cX11_readLine 210 = .ok (.if_icmp .ne 79, 3) := by decide +kernel
theorem dX11_readLine_213 : decode cX11_readLine 213 = .ok (.aload_n 0, 1) := by decide +kernel
theorem dX11_readLine_214 : decode cX11_readLine 214 = .ok (.getfield 27, 3) := by decide +kernel
theorem dX11_readLine_217 : decode cX11_readLine 217 = .ok (.iload 9, 2) := by decide +kernel
theorem dX11_readLine_219 : decode cX11_readLine 219 = .ok (.iload_n 3, 1) := by decide +kernel
theorem dX11_readLine_220 : decode cX11_readLine 220 = .ok (.iconst 1, 1) := by decide +kernel
theorem dX11_readLine_221 : decode cX11_readLine 221 = .ok (.if_icmp .ne 17, 3) := by decide +kernel
theorem dX11_readLine_224 : decode cX11_readLine 224 = .ok (.aload_n 0, 1) := by decide +kernel
theorem dX11_readLine_225 : decode cX11_readLine 225 = .ok (.getfield 52, 3) := by decide +kernel
theorem dX11_readLine_228 : decode cX11_readLine 228 = .ok (.iload 8, 2) := by decide +kernel
theorem dX11_readLine_230 : decode cX11_readLine 230 = .ok (.baload, 1) := by decide +kernel
theorem dX11_readLine_231 : decode cX11_readLine 231 = .ok (.sipush 255, 3) := by decide +kernel
theorem dX11_readLine_234 : decode cX11_readLine 234 = .ok (.iand, 1) := by decide +kernel
theorem dX11_readLine_235 : decode cX11_readLine 235 = .ok (.goto 50, 3) := by decide +kernel
theorem dX11_readLine_238 : decode cX11_readLine 238 = .ok (.aload_n 0, 1) := by decide +kernel
theorem dX11_readLine_239 : decode cX11_readLine 239 = .ok (.getfield 52, 3) := by decide +kernel
theorem dX11_readLine_242 : decode cX11_readLine 242 = .ok (.iload 8, 2) := by decide +kernel
theorem dX11_readLine_244 : decode cX11_readLine 244 = .ok (.baload, 1) := by decide +kernel
theorem dX11_readLine_245 : decode cX11_readLine 245 = .ok (.sipush 255, 3) := by decide +kernel
theorem dX11_readLine_248 : decode cX11_readLine 248 = .ok (.iand, 1) := by decide +kernel
theorem dX11_readLine_249 : decode cX11_readLine 249 = .ok (.aload_n 0, 1) := by decide +kernel
theorem dX11_readLine_250 : decode cX11_readLine 250 = .ok (.getfield 52, 3) := by decide +kernel
theorem dX11_readLine_253 : decode cX11_readLine 253 = .ok (.sipush 4096, 3) := by decide +kernel
theorem dX11_readLine_256 : decode cX11_readLine 256 = .ok (.iload 8, 2) := by decide +kernel
theorem dX11_readLine_258 : decode cX11_readLine 258 = .ok (.iadd, 1) := by decide +kernel
theorem dX11_readLine_259 : decode cX11_readLine 259 = .ok (.baload, 1) := by decide +kernel
theorem dX11_readLine_260 : decode cX11_readLine 260 = .ok (.sipush 255, 3) := by decide +kernel
theorem dX11_readLine_263 : decode cX11_readLine 263 = .ok (.iand, 1) := by decide +kernel
theorem dX11_readLine_264 : decode cX11_readLine 264 = .ok (.aload_n 0, 1) := by decide +kernel
theorem dX11_readLine_265 : decode cX11_readLine 265 = .ok (.getfield 52, 3) := by decide +kernel
theorem dX11_readLine_268 : decode cX11_readLine 268 = .ok (.sipush 8192, 3) := by decide +kernel
theorem dX11_readLine_271 : decode cX11_readLine 271 = .ok (.iload 8, 2) := by decide +kernel
theorem dX11_readLine_273 : decode cX11_readLine 273 = .ok (.iadd, 1) := by decide +kernel
theorem dX11_readLine_274 : decode cX11_readLine 274 = .ok (.baload, 1) := by decide +kernel
theorem dX11_readLine_275 : decode cX11_readLine 275 = .ok (.sipush 255, 3) := by decide +kernel
theorem dX11_readLine_278 : decode cX11_readLine 278 = .ok (.iand, 1) := by decide +kernel
theorem dX11_readLine_279 : decode cX11_readLine 279 = .ok (.sipush 255, 3) := by decide +kernel
theorem dX11_readLine_282 : decode cX11_readLine 282 = .ok (.invokestatic 115, 3) := by decide +kernel
theorem dX11_readLine_285 : decode cX11_readLine 285 = .ok (.iastore, 1) := by decide +kernel
theorem dX11_readLine_286 : decode cX11_readLine 286 = .ok (.goto 115, 3) := by decide +kernel
theorem dX11_readLine_289 : decode cX11_readLine 289 = .ok (.bipush 8, 2) := by decide +kernel
theorem dX11_readLine_291 : decode cX11_readLine 291 = .ok (.iload_n 2, 1) := by decide +kernel
theorem dX11_readLine_292 : decode cX11_readLine 292 = .ok (.idiv, 1) := by decide +kernel
theorem dX11_readLine_293 : decode cX11_readLine 293 = .ok (.istore 10, 2) := by decide +kernel
theorem dX11_readLine_295 : decode cX11_readLine 295 = .ok (.iconst 0, 1) := by decide +kernel
theorem dX11_readLine_296 : decode cX11_readLine 296 = .ok (.istore 11, 2) := by decide +kernel
theorem dX11_readLine_298 : decode cX11_readLine 298 = .ok (.iconst 0, 1) := by decide +kernel
theorem dX11_readLine_299 : decode cX11_readLine 299 = .ok (.istore 12, 2) := by decide +kernel
theorem dX11_readLine_301 : decode cX11_readLine 301 = .ok (.iload 12, 2) := by decide +kernel
theorem dX11_readLine_303 : decode cX11_readLine 303 = .ok (.iload_n 3, 1) := by decide +kernel
theorem dX11_readLine_304 : decode cX11_readLine 304 = .ok (.if_icmp .ge 55, 3) := by decide +kernel
theorem dX11_readLine_307 : decode cX11_readLine 307 = .ok (.iload 11, 2) := by decide +kernel
theorem dX11_readLine_309 : decode cX11_readLine 309 = .ok (.aload_n 0, 1) := by decide +kernel
theorem dX11_readLine_310 : decode cX11_readLine 310 = .ok (.getfield 52, 3) := by decide +kernel
theorem dX11_readLine_313 : decode cX11_readLine 313 = .ok (.sipush 4096, 3) := by decide +kernel
theorem dX11_readLine_316 : decode cX11_readLine 316 = .ok (.iload 12, 2) := by decide +kernel
theorem dX11_readLine_318 : decode cX11_readLine 318 = .ok (.imul, 1) := by decide +kernel
theorem dX11_readLine_319 : decode cX11_readLine 319 = .ok (.iload 8, 2) := by decide +kernel
theorem dX11_readLine_321 : decode cX11_readLine 321 = .ok (.iload 10, 2) := by decide +kernel
theorem dX11_readLine_323 : decode cX11_readLine 323 = .ok (.idiv, 1) := by decide +kernel
theorem dX11_readLine_324 : decode cX11_readLine 324 = .ok (.iadd, 1) := by decide +kernel
theorem dX11_readLine_325 : decode cX11_readLine 325 = .ok (.baload, 1) := by decide +kernel
theorem dX11_readLine_326 : decode cX11_readLine 326 = .ok (.bipush 8, 2) := by decide +kernel
theorem dX11_readLine_328 : decode cX11_readLine 328 = .ok (.iload_n 2, 1) := by decide +kernel
theorem dX11_readLine_329 : decode cX11_readLine 329 = .ok (.isub, 1) := by decide +kernel
theorem dX11_readLine_330 : decode cX11_readLine 330 = .ok (.iload 8, 2) := by decide +kernel
theorem dX11_readLine_332 : decode cX11_readLine 332 = .ok (.iload 10, 2) := by decide +kernel
theorem dX11_readLine_334 : decode cX11_readLine 334 = .ok (.irem, 1) := by decide +kernel
theorem dX11_readLine_335 : decode cX11_readLine 335 = .ok (.iload_n 2, 1) := by decide +kernel
theorem dX11_readLine_336 : decode cX11_readLine 336 = .ok (.imul, 1) := by decide +kernel
theorem dX11_readLine_337 : decode cX11_readLine 337 = .ok (.isub, 1) := by decide +kernel
theorem dX11_readLine_338 : decode cX11_readLine 338 = .ok (.ishr, 1) := by decide +kernel
theorem dX11_readLine_339 : decode cX11_readLine 339 = .ok (.iconst 1, 1) := by decide +kernel
theorem dX11_readLine_340 : decode cX11_readLine 340 = .ok (.iload_n 2, 1) := by decide +kernel
theorem dX11_readLine_341 : decode cX11_readLine 341 = .ok (.ishl, 1) := by decide +kernel
theorem dX11_readLine_342 : decode cX11_readLine 342 = .ok (.iconst 1, 1) := by decide +kernel
theorem dX11_readLine_343 : decode cX11_readLine 343 = .ok (.isub, 1) := by decide +kernel
theorem dX11_readLine_344 : decode cX11_readLine 344 = .ok (.iand, 1) := by decide +kernel
theorem dX11_readLine_345 : decode cX11_readLine 345 = .ok (.iload_n 2, 1) := by decide +kernel
theorem dX11_readLine_346 : decode cX11_readLine 346 = .ok (.iload 12, 2) := by decide +kernel
theorem dX11_readLine_348 : decode cX11_readLine 348 = .ok (.imul, 1) := by decide +kernel
theorem dX11_readLine_349 : decode cX11_readLine 349 = .ok (.ishl, 1) := by decide +kernel
theorem dX11_readLine_350 : decode cX11_readLine 350 = .ok (.ior, 1) := by decide +kernel
theorem dX11_readLine_351 : decode cX11_readLine 351 = .ok (.istore 11, 2) := by decide +kernel
theorem dX11_readLine_353 : decode cX11_readLine 353 = .ok (.iinc 12 1, 3) := by decide +kernel
theorem dX11_readLine_356 : decode cX11_readLine 356 = .ok (.goto (-55), 3) := by decide +kernel
theorem dX11_readLine_359 : decode cX11_readLine 359 = .ok (.aload_n 0, 1) := by decide +kernel
theorem dX11_readLine_360 : decode cX11_readLine 360 = .ok (.getfield 27, 3) := by decide +kernel
theorem dX11_readLine_363 : decode cX11_readLine 363 = .ok (.iload 9, 2) := by decide +kernel
theorem dX11_readLine_365 : decode cX11_readLine 365 = .ok (.iload_n 2, 1) := by decide +kernel
theorem dX11_readLine_366 : decode cX11_readLine 366 = .ok (.iconst 1, 1) := by decide +kernel
theorem dX11_readLine_367 : decode cX11_readLine 367 = .ok (.if_icmp .ne 26, 3) := by decide +kernel
theorem dX11_readLine_370 : decode cX11_readLine 370 = .ok (.iload_n 3, 1) := by decide +kernel
theorem dX11_readLine_371 : decode cX11_readLine 371 = .ok (.iconst 1, 1) := by decide +kernel
theorem dX11_readLine_372 : decode cX11_readLine 372 = .ok (.if_icmp .ne 21, 3) := by decide +kernel
theorem dX11_readLine_375 : decode cX11_readLine 375 = .ok (.iload 11, 2) := by decide +kernel
theorem dX11_readLine_377 : decode cX11_readLine 377 = .ok (.ifCond .ne 7, 3) := by decide +kernel
theorem dX11_readLine_380 : decode cX11_readLine 380 = .ok (.iconst 0, 1) := by decide +kernel
theorem dX11_readLine_381 : decode cX11_readLine 381 = .ok (.goto 6, 3) := by decide +kernel
theorem dX11_readLine_384 : decode cX11_readLine 384 = .ok (.sipush 255, 3) := by decide +kernel
theorem dX11_readLine_387 : decode cX11_readLine 387 = .ok (.invokestatic 176, 3) := by decide +kernel
theorem dX11_readLine_390 : decode cX11_readLine 390 = .ok (.goto 10, 3) := by decide +kernel
theorem dX11_readLine_393 : decode cX11_readLine 393 = .ok (.aload_n 0, 1) := by decide +kernel
theorem dX11_readLine_394 : decode cX11_readLine 394 = .ok (.getfield 49, 3) := by decide +kernel
theorem dX11_readLine_397 : decode cX11_readLine 397 = .ok (.iload 11, 2) := by decide +kernel
theorem dX11_readLine_399 : decode cX11_readLine 399 = .ok (.iaload, 1) := by decide +kernel
theorem dX11_readLine_400 : decode cX11_readLine 400 = .ok (.iastore, 1) := by decide +kernel
theorem dX11_readLine_401 : decode cX11_readLine 401 = .ok (.iinc 8 1, 3) := by decide +kernel
theorem dX11_readLine_404 : decode cX11_readLine 404 = .ok (.goto (-217), 3) := by decide +kernel
theorem dX11_readLine_407 : decode cX11_readLine 407 = .ok (.iconst 1, 1) := by decide +kernel
theorem dX11_readLine_408 : decode cX11_readLine 408 = .ok (.ireturn, 1) := by decide +kernel
theorem dX11_readFile_0 : decode cX11_readFile 0 = .ok (.aload_n 0, 1) := by decide +kernel
theorem dX11_readFile_1 : decode cX11_readFile 1 = .ok (.aload_n 2, 1) := by decide +kernel
theorem dX11_readFile_2 : decode cX11_readFile 2 = .ok (.putfield 94, 3) := by decide +kernel
theorem dX11_readFile_5 : decode cX11_readFile 5 = .ok (.aload_n 0, 1) := by decide +kernel
theorem dX11_readFile_6 : decode cX11_readFile 6 = .ok (.iload_n 3, 1) := by decide +kernel
theorem dX11_readFile_7 : decode cX11_readFile 7 = .ok (.putfield 87, 3) := by decide +kernel
theorem dX11_readFile_10 : decode cX11_readFile 10 = .ok (.aload_n 0, 1) := by decide +kernel
theorem dX11_readFile_11 : decode cX11_readFile 11 = .ok (.iconst 0, 1) := by decide +kernel
theorem dX11_readFile_12 : decode cX11_readFile 12 = .ok (.putfield 84, 3) := by decide +kernel
theorem dX11_readFile_15 : decode cX11_readFile 15 = .ok (.aload_n 0, 1) := by decide +kernel
theorem dX11_readFile_16 : decode cX11_readFile 16 = .ok (.iconst 0, 1) := by decide +kernel
theorem dX11_readFile_17 : decode cX11_readFile 17 = .ok (.putfield 78, 3) := by decide +kernel
theorem dX11_readFile_20 : decode cX11_readFile 20 = .ok (.aload_n 0, 1) := by decide +kernel
theorem dX11_readFile_21 : decode cX11_readFile 21 = .ok (.iconst (-1), 1) := by decide +kernel
theorem dX11_readFile_22 : decode cX11_readFile 22 = .ok (.putfield 81, 3) := by decide +kernel
theorem dX11_readFile_25 : decode cX11_readFile 25 = .ok (.iload_n 1, 1) := by decide +kernel
theorem dX11_readFile_26 : decode cX11_readFile 26 = .ok (.ifCond .ne 10, 3) := by decide +kernel
theorem dX11_readFile_29 : decode cX11_readFile 29 = .ok (.aload_n 0, 1) := by decide +kernel
theorem dX11_readFile_30 : decode cX11_readFile 30 = .ok (.invokevirtual 230, 3) := by decide +kernel
theorem dX11_readFile_33 : decode cX11_readFile 33 = .ok (.goto 43, 3) := by decide +kernel
theorem dX11_readFile_36 : decode cX11_readFile 36 = .ok (.iload_n 1, 1) := by decide +kernel
theorem dX11_readFile_37 : decode cX11_readFile 37 = .ok (.iconst 1, 1) := by decide +kernel
theorem dX11_readFile_38 : decode cX11_readFile 38 = .ok (.if_icmp .ne 10, 3) := by decide +kernel
theorem dX11_readFile_41 : decode cX11_readFile 41 = .ok (.aload_n 0, 1) := by decide +kernel
theorem dX11_readFile_42 : decode cX11_readFile 42 = .ok (.invokevirtual 233, 3) := by decide +kernel
theorem dX11_readFile_45 : decode cX11_readFile 45 = .ok (.goto 31, 3) := by decide +kernel
theorem dX11_readFile_48 : decode cX11_readFile 48 = .ok (.iload_n 1, 1) := by decide +kernel
theorem dX11_readFile_49 : decode cX11_readFile 49 = .ok (.iconst 2, 1) := by decide +kernel
theorem dX11_readFile_50 : decode cX11_readFile 50 = .ok (.if_icmp .ne 10, 3) := by decide +kernel
theorem dX11_readFile_53 : decode cX11_readFile 53 = .ok (.aload_n 0, 1) := by decide +kernel
theorem dX11_readFile_54 : decode cX11_readFile 54 = .ok (.invokevirtual 236, 3) := by decide +kernel
theorem dX11_readFile_57 : decode cX11_readFile 57 = .ok (.goto 19, 3) := by decide +kernel
theorem dX11_readFile_60 : decode cX11_readFile 60 = .ok (.iload_n 1, 1) := by decide +kernel
theorem dX11_readFile_61 : decode cX11_readFile 61 = .ok (.iconst 3, 1) := by decide +kernel
theorem dX11_readFile_62 : decode cX11_readFile 62 = .ok (.if_icmp .ne 10, 3) := by decide +kernel
theorem dX11_readFile_65 : decode cX11_readFile 65 = .ok (.aload_n 0, 1) := by decide +kernel
theorem dX11_readFile_66 : decode cX11_readFile 66 = .ok (.invokevirtual 239, 3) := by decide +kernel
theorem dX11_readFile_69 : decode cX11_readFile 69 = .ok (.goto 7, 3) := by decide +kernel
theorem dX11_readFile_72 : decode cX11_readFile 72 = .ok (.aload_n 0, 1) := by decide +kernel
theorem dX11_readFile_73 : decode cX11_readFile 73 = .ok (.invokevirtual 242, 3) := by decide +kernel
theorem dX11_readFile_76 : decode cX11_readFile 76 = .ok (.ireturn, 1) := by decide +kernel
theorem dX11_keep_0 : decode cX11_keep 0 = .ok (.aload_n 0, 1) := by decide +kernel
theorem dX11_keep_1 : decode cX11_keep 1 = .ok (.getfield 21, 3) := by decide +kernel
theorem dX11_keep_4 : decode cX11_keep 4 = .ok (.iload_n 2, 1) := by decide +kernel
theorem dX11_keep_5 : decode cX11_keep 5 = .ok (.aload_n 0, 1) := by decide +kernel
theorem dX11_keep_6 : decode cX11_keep 6 = .ok (.getfield 109, 3) := by decide +kernel
theorem dX11_keep_9 : decode cX11_keep 9 = .ok (.iastore, 1) := by decide +kernel
theorem dX11_keep_10 : decode cX11_keep 10 = .ok (.aload_n 0, 1) := by decide +kernel
theorem dX11_keep_11 : decode cX11_keep 11 = .ok (.getfield 24, 3) := by decide +kernel
theorem dX11_keep_14 : decode cX11_keep 14 = .ok (.iload_n 2, 1) := by decide +kernel
theorem dX11_keep_15 : decode cX11_keep 15 = .ok (.aload_n 0, 1) := by decide +kernel
theorem dX11_keep_16 : decode cX11_keep 16 = .ok (.getfield 112, 3) := by decide +kernel
theorem dX11_keep_19 : decode cX11_keep 19 = .ok (.iastore, 1) := by decide +kernel
theorem dX11_keep_20 : decode cX11_keep 20 = .ok (.iconst 0, 1) := by decide +kernel
theorem dX11_keep_21 : decode cX11_keep 21 = .ok (.istore_n 3, 1) := by decide +kernel
theorem dX11_keep_22 : decode cX11_keep 22 = .ok (.iload_n 3, 1) := by decide +kernel
theorem dX11_keep_23 : decode cX11_keep 23 = .ok (.aload_n 0, 1) := by decide +kernel
theorem dX11_keep_24 : decode cX11_keep 24 = .ok (.getfield 109, 3) := by decide +kernel
theorem dX11_keep_27 : decode cX11_keep 27 = .ok (.aload_n 0, 1) := by decide +kernel
theorem dX11_keep_28 : decode cX11_keep 28 = .ok (.getfield 112, 3) := by decide +kernel
theorem dX11_keep_31 : decode cX11_keep 31 = .ok (.imul, 1) := by decide +kernel
theorem dX11_keep_32 : decode cX11_keep 32 = .ok (.if_icmp .ge 27, 3) := by decide +kernel
theorem dX11_keep_35 : decode cX11_keep 35 = .ok (.aload_n 0, 1) := by decide +kernel
theorem dX11_keep_36 : decode cX11_keep 36 = .ok (.getfield 17, 3) := by decide +kernel
theorem dX11_keep_39 : decode cX11_keep 39 = .ok (.sipush 4096, 3) := by decide +kernel
theorem dX11_keep_42 : decode cX11_keep 42 = .ok (.iload_n 2, 1) := by decide +kernel
theorem dX11_keep_43 : decode cX11_keep 43 = .ok (.imul, 1) := by decide +kernel
theorem dX11_keep_44 : decode cX11_keep 44 = .ok (.iload_n 3, 1) := by decide +kernel
theorem dX11_keep_45 : decode cX11_keep 45 = .ok (.iadd, 1) := by decide +kernel
theorem dX11_keep_46 : decode cX11_keep 46 = .ok (.aload_n 0, 1) := by decide +kernel
theorem dX11_keep_47 : decode cX11_keep 47 = .ok (.getfield 27, 3) := by decide +kernel
theorem dX11_keep_50 : decode cX11_keep 50 = .ok (.iload_n 3, 1) := by decide +kernel
theorem dX11_keep_51 : decode cX11_keep 51 = .ok (.iaload, 1) := by decide +kernel
theorem dX11_keep_52 : decode cX11_keep 52 = .ok (.iastore, 1) := by decide +kernel
theorem dX11_keep_53 : decode cX11_keep 53 = .ok (.iinc 3 1, 3) := by decide +kernel
theorem dX11_keep_56 : decode cX11_keep 56 = .ok (.goto (-34), 3) := by decide +kernel
theorem dX11_keep_59 : decode cX11_keep 59 = .ok (.aload_n 0, 1) := by decide +kernel
theorem dX11_keep_60 : decode cX11_keep 60 = .ok (.iload_n 1, 1) := by decide +kernel
theorem dX11_keep_61 : decode cX11_keep 61 = .ok (.putfield 30, 3) := by decide +kernel
theorem dX11_keep_64 : decode cX11_keep 64 = .ok (.aload_n 0, 1) := by decide +kernel
theorem dX11_keep_65 : decode cX11_keep 65 = .ok (.aload_n 0, 1) := by decide +kernel
theorem dX11_keep_66 : decode cX11_keep 66 = .ok (.getfield 130, 3) := by decide +kernel
theorem dX11_keep_69 : decode cX11_keep 69 = .ok (.putfield 34, 3) := by decide +kernel
theorem dX11_keep_72 : decode cX11_keep 72 = .ok (.aload_n 0, 1) := by decide +kernel
theorem dX11_keep_73 : decode cX11_keep 73 = .ok (.aload_n 0, 1) := by decide +kernel
theorem dX11_keep_74 : decode cX11_keep 74 = .ok (.getfield 133, 3) := by decide +kernel
theorem dX11_keep_77 : decode cX11_keep 77 = .ok (.putfield 37, 3) := by decide +kernel
theorem dX11_keep_80 : decode cX11_keep 80 = .ok (.aload_n 0, 1) := by decide +kernel
theorem dX11_keep_81 : decode cX11_keep 81 = .ok (.aload_n 0, 1) := by decide +kernel
theorem dX11_keep_82 : decode cX11_keep 82 = .ok (.getfield 136, 3) := by decide +kernel
theorem dX11_keep_85 : decode cX11_keep 85 = .ok (.putfield 40, 3) := by decide +kernel
theorem dX11_keep_88 : decode cX11_keep 88 = .ok (.return_, 1) := by decide +kernel
theorem dX11_isShelf_0 : decode cX11_isShelf 0 = .ok (.iload_n 0, 1) := by decide +kernel
theorem dX11_isShelf_1 : decode cX11_isShelf 1 = .ok (.ifCond .lt 12, 3) := by decide +kernel
theorem dX11_isShelf_4 : decode cX11_isShelf 4 = .ok (.iload_n 0, 1) := by decide +kernel
theorem dX11_isShelf_5 : decode cX11_isShelf 5 = .ok (.iconst 4, 1) := by decide +kernel
theorem dX11_isShelf_6 : decode cX11_isShelf 6 = .ok (.if_icmp .ge 7, 3) := by decide +kernel
theorem dX11_isShelf_9 : decode cX11_isShelf 9 = .ok (.iconst 1, 1) := by decide +kernel
theorem dX11_isShelf_10 : decode cX11_isShelf 10 = .ok (.goto 4, 3) := by decide +kernel
theorem dX11_isShelf_13 : decode cX11_isShelf 13 = .ok (.iconst 0, 1) := by decide +kernel
theorem dX11_isShelf_14 : decode cX11_isShelf 14 = .ok (.ireturn, 1) := by decide +kernel
theorem dX11_read_0 : decode cX11_read 0 = .ok (.aload_n 0, 1) := by decide +kernel
theorem dX11_read_1 : decode cX11_read 1 = .ok (.iconst 0, 1) := by decide +kernel
theorem dX11_read_2 : decode cX11_read 2 = .ok (.putfield 61, 3) := by decide +kernel
theorem dX11_read_5 : decode cX11_read 5 = .ok (.iload_n 2, 1) := by decide +kernel
theorem dX11_read_6 : decode cX11_read 6 = .ok (.invokestatic 245, 3) := by decide +kernel
theorem dX11_read_9 : decode cX11_read 9 = .ok (.ifCond .ne 10, 3) := by decide +kernel
theorem dX11_read_12 : decode cX11_read 12 = .ok (.aload_n 0, 1) := by decide +kernel
theorem dX11_read_13 : decode cX11_read 13 = .ok (.iconst 1, 1) := by decide +kernel
theorem dX11_read_14 : decode cX11_read 14 = .ok (.putfield 61, 3) := by decide +kernel
theorem dX11_read_17 : decode cX11_read 17 = .ok (.iconst 0, 1) := by decide +kernel
theorem dX11_read_18 : decode cX11_read 18 = .ok (.ireturn, 1) := by decide +kernel
theorem dX11_read_19 : decode cX11_read 19 = .ok (.iload_n 1, 1) := by decide +kernel
theorem dX11_read_20 : decode cX11_read 20 = .ok (.ifCond .lt 8, 3) := by decide +kernel
theorem dX11_read_23 : decode cX11_read 23 = .ok (.iload_n 1, 1) := by decide +kernel
theorem dX11_read_24 : decode cX11_read 24 = .ok (.iconst 4, 1) := by decide +kernel
theorem dX11_read_25 : decode cX11_read 25 = .ok (.if_icmp .le 10, 3) := by decide +kernel
theorem dX11_read_28 : decode cX11_read 28 = .ok (.aload_n 0, 1) := by decide +kernel
theorem dX11_read_29 : decode cX11_read 29 = .ok (.iconst 2, 1) := by decide +kernel
theorem dX11_read_30 : decode cX11_read 30 = .ok (.putfield 61, 3) := by decide +kernel
theorem dX11_read_33 : decode cX11_read 33 = .ok (.iconst 0, 1) := by decide +kernel
theorem dX11_read_34 : decode cX11_read 34 = .ok (.ireturn, 1) := by decide +kernel
theorem dX11_read_35 : decode cX11_read 35 = .ok (.aload_n 0, 1) := by decide +kernel
theorem dX11_read_36 : decode cX11_read 36 = .ok (.getfield 64, 3) := by decide +kernel
theorem dX11_read_39 : decode cX11_read 39 = .ok (.istore_n 3, 1) := by decide +kernel
theorem dX11_read_40 : decode cX11_read 40 = .ok (.aload_n 0, 1) := by decide +kernel
theorem dX11_read_41 : decode cX11_read 41 = .ok (.iconst 0, 1) := by decide +kernel
theorem dX11_read_42 : decode cX11_read 42 = .ok (.putfield 64, 3) := by decide +kernel
theorem dX11_read_45 : decode cX11_read 45 = .ok (.aload_n 0, 1) := by decide +kernel
theorem dX11_read_46 : decode cX11_read 46 = .ok (.iconst (-1), 1) := by decide +kernel
theorem dX11_read_47 : decode cX11_read 47 = .ok (.putfield 43, 3) := by decide +kernel
theorem dX11_read_50 : decode cX11_read 50 = .ok (.aload_n 0, 1) := by decide +kernel
theorem dX11_read_51 : decode cX11_read 51 = .ok (.iload_n 1, 1) := by decide +kernel
theorem dX11_read_52 : decode cX11_read 52 = .ok (.aload_n 0, 1) := by decide +kernel
theorem dX11_read_53 : decode cX11_read 53 = .ok (.getfield 10, 3) := by decide +kernel
theorem dX11_read_56 : decode cX11_read 56 = .ok (.iload_n 3, 1) := by decide +kernel
theorem dX11_read_57 : decode cX11_read 57 = .ok (.invokevirtual 248, 3) := by decide +kernel
theorem dX11_read_60 : decode cX11_read 60 = .ok (.ifCond .eq 11, 3) := by decide +kernel
theorem dX11_read_63 : decode cX11_read 63 = .ok (.aload_n 0, 1) := by decide +kernel
theorem dX11_read_64 : decode cX11_read 64 = .ok (.iload_n 1, 1) := by decide +kernel
theorem dX11_read_65 : decode cX11_read 65 = .ok (.iload_n 2, 1) := by decide +kernel
theorem dX11_read_66 : decode cX11_read 66 = .ok (.invokevirtual 252, 3) := by decide +kernel
theorem dX11_read_69 : decode cX11_read 69 = .ok (.iconst 0, 1) := by decide +kernel
theorem dX11_read_70 : decode cX11_read 70 = .ok (.ireturn, 1) := by decide +kernel
theorem dX11_read_71 : decode cX11_read 71 = .ok (.aload_n 0, 1) := by decide +kernel
theorem dX11_read_72 : decode cX11_read 72 = .ok (.aload_n 0, 1) := by decide +kernel
theorem dX11_read_73 : decode cX11_read 73 = .ok (.getfield 81, 3) := by decide +kernel
theorem dX11_read_76 : decode cX11_read 76 = .ok (.putfield 43, 3) := by decide +kernel
theorem dX11_read_79 : decode cX11_read 79 = .ok (.aload_n 0, 1) := by decide +kernel
theorem dX11_read_80 : decode cX11_read 80 = .ok (.getfield 78, 3) := by decide +kernel
theorem dX11_read_83 : decode cX11_read 83 = .ok (.ireturn, 1) := by decide +kernel
theorem dX11_place_0 : decode cX11_place 0 = .ok (.aload_n 0, 1) := by decide +kernel
theorem dX11_place_1 : decode cX11_place 1 = .ok (.iconst 0, 1) := by decide +kernel
theorem dX11_place_2 : decode cX11_place 2 = .ok (.putfield 61, 3) := by decide +kernel
theorem dX11_place_5 : decode cX11_place 5 = .ok (.aload_n 0, 1) := by decide +kernel
theorem dX11_place_6 : decode cX11_place 6 = .ok (.getfield 43, 3) := by decide +kernel
theorem dX11_place_9 : decode cX11_place 9 = .ok (.ireturn, 1) := by decide +kernel
theorem dX11_told_0 : decode cX11_told 0 = .ok (.aload_n 0, 1) := by decide +kernel
theorem dX11_told_1 : decode cX11_told 1 = .ok (.iconst 0, 1) := by decide +kernel
theorem dX11_told_2 : decode cX11_told 2 = .ok (.putfield 61, 3) := by decide +kernel
theorem dX11_told_5 : decode cX11_told 5 = .ok (.iload_n 1, 1) := by decide +kernel
theorem dX11_told_6 : decode cX11_told 6 = .ok (.ifCond .ne 10, 3) := by decide +kernel
theorem dX11_told_9 : decode cX11_told 9 = .ok (.aload_n 0, 1) := by decide +kernel
theorem dX11_told_10 : decode cX11_told 10 = .ok (.getfield 30, 3) := by decide +kernel
theorem dX11_told_13 : decode cX11_told 13 = .ok (.goto 40, 3) := by decide +kernel
theorem dX11_told_16 : decode cX11_told 16 = .ok (.iload_n 1, 1) := by decide +kernel
theorem dX11_told_17 : decode cX11_told 17 = .ok (.iconst 1, 1) := by decide +kernel
theorem dX11_told_18 : decode cX11_told 18 = .ok (.if_icmp .ne 10, 3) := by decide +kernel
theorem dX11_told_21 : decode cX11_told 21 = .ok (.aload_n 0, 1) := by decide +kernel
theorem dX11_told_22 : decode cX11_told 22 = .ok (.getfield 34, 3) := by decide +kernel
theorem dX11_told_25 : decode cX11_told 25 = .ok (.goto 28, 3) := by decide +kernel
theorem dX11_told_28 : decode cX11_told 28 = .ok (.iload_n 1, 1) := by decide +kernel
theorem dX11_told_29 : decode cX11_told 29 = .ok (.iconst 2, 1) := by decide +kernel
theorem dX11_told_30 : decode cX11_told 30 = .ok (.if_icmp .ne 10, 3) := by decide +kernel
theorem dX11_told_33 : decode cX11_told 33 = .ok (.aload_n 0, 1) := by decide +kernel
theorem dX11_told_34 : decode cX11_told 34 = .ok (.getfield 37, 3) := by decide +kernel
theorem dX11_told_37 : decode cX11_told 37 = .ok (.goto 16, 3) := by decide +kernel
theorem dX11_told_40 : decode cX11_told 40 = .ok (.iload_n 1, 1) := by decide +kernel
theorem dX11_told_41 : decode cX11_told 41 = .ok (.iconst 3, 1) := by decide +kernel
theorem dX11_told_42 : decode cX11_told 42 = .ok (.if_icmp .ne 10, 3) := by decide +kernel
theorem dX11_told_45 : decode cX11_told 45 = .ok (.aload_n 0, 1) := by decide +kernel
theorem dX11_told_46 : decode cX11_told 46 = .ok (.getfield 40, 3) := by decide +kernel
theorem dX11_told_49 : decode cX11_told 49 = .ok (.goto 4, 3) := by decide +kernel
theorem dX11_told_52 : decode cX11_told 52 = .ok (.iconst (-1), 1) := by decide +kernel
theorem dX11_told_53 : decode cX11_told 53 = .ok (.ireturn, 1) := by decide +kernel
theorem dX11_many_0 : decode cX11_many 0 = .ok (.aload_n 0, 1) := by decide +kernel
theorem dX11_many_1 : decode cX11_many 1 = .ok (.getfield 21, 3) := by decide +kernel
theorem dX11_many_4 : decode cX11_many 4 = .ok (.iload_n 1, 1) := by decide +kernel
theorem dX11_many_5 : decode cX11_many 5 = .ok (.iaload, 1) := by decide +kernel
theorem dX11_many_6 : decode cX11_many 6 = .ok (.aload_n 0, 1) := by decide +kernel
theorem dX11_many_7 : decode cX11_many 7 = .ok (.getfield 24, 3) := by decide +kernel
theorem dX11_many_10 : decode cX11_many 10 = .ok (.iload_n 1, 1) := by decide +kernel
theorem dX11_many_11 : decode cX11_many 11 = .ok (.iaload, 1) := by decide +kernel
theorem dX11_many_12 : decode cX11_many 12 = .ok (.imul, 1) := by decide +kernel
theorem dX11_many_13 : decode cX11_many 13 = .ok (.ireturn, 1) := by decide +kernel
theorem dX11_isOpaque_0 : decode cX11_isOpaque 0 = .ok (.iconst 0, 1) := by decide +kernel
theorem dX11_isOpaque_1 : decode cX11_isOpaque 1 = .ok (.istore_n 2, 1) := by decide +kernel
theorem dX11_isOpaque_2 : decode cX11_isOpaque 2 = .ok (.iload_n 2, 1) := by decide +kernel
theorem dX11_isOpaque_3 : decode cX11_isOpaque 3 = .ok (.aload_n 0, 1) := by decide +kernel
theorem dX11_isOpaque_4 : decode cX11_isOpaque 4 = .ok (.iload_n 1, 1) := by decide +kernel
theorem dX11_isOpaque_5 : decode cX11_isOpaque 5 = .ok (.invokevirtual 256, 3) := by decide +kernel
theorem dX11_isOpaque_8 : decode cX11_isOpaque 8 = .ok (.if_icmp .ge 33, 3) := by decide +kernel
theorem dX11_isOpaque_11 : decode cX11_isOpaque 11 = .ok (.aload_n 0, 1) := by decide +kernel
theorem dX11_isOpaque_12 : decode cX11_isOpaque 12 = .ok (.getfield 17, 3) := by decide +kernel
theorem dX11_isOpaque_15 : decode cX11_isOpaque 15 = .ok (.sipush 4096, 3) := by decide +kernel
theorem dX11_isOpaque_18 : decode cX11_isOpaque 18 = .ok (.iload_n 1, 1) := by decide +kernel
theorem dX11_isOpaque_19 : decode cX11_isOpaque 19 = .ok (.imul, 1) := by decide +kernel
theorem dX11_isOpaque_20 : decode cX11_isOpaque 20 = .ok (.iload_n 2, 1) := by decide +kernel
theorem dX11_isOpaque_21 : decode cX11_isOpaque 21 = .ok (.iadd, 1) := by decide +kernel
theorem dX11_isOpaque_22 : decode cX11_isOpaque 22 = .ok (.iaload, 1) := by decide +kernel
theorem dX11_isOpaque_23 : decode cX11_isOpaque 23 = .ok (.sipush 255, 3) := by decide +kernel
theorem dX11_isOpaque_26 : decode cX11_isOpaque 26 = .ok (.iand, 1) := by decide +kernel
theorem dX11_isOpaque_27 : decode cX11_isOpaque 27 = .ok (.sipush 255, 3) := by decide +kernel
theorem dX11_isOpaque_30 : decode cX11_isOpaque 30 = .ok (.if_icmp .eq 5, 3) := by decide +kernel
theorem dX11_isOpaque_33 : decode cX11_isOpaque 33 = .ok (.iconst 0, 1) := by decide +kernel
theorem dX11_isOpaque_34 : decode cX11_isOpaque 34 = .ok (.ireturn, 1) := by decide +kernel
theorem dX11_isOpaque_35 : decode cX11_isOpaque 35 = .ok (.iinc 2 1, 3) := by decide +kernel
theorem dX11_isOpaque_38 : decode cX11_isOpaque 38 = .ok (.goto (-36), 3) := by decide +kernel
theorem dX11_isOpaque_41 : decode cX11_isOpaque 41 = .ok (.iconst 1, 1) := by decide +kernel
theorem dX11_isOpaque_42 : decode cX11_isOpaque 42 = .ok (.ireturn, 1) := by decide +kernel
theorem dX11_isGrayRaster_0 : decode cX11_isGrayRaster 0 = .ok (.iconst 0, 1) := by decide +kernel
theorem dX11_isGrayRaster_1 : decode cX11_isGrayRaster 1 = .ok (.istore_n 2, 1) := by decide +kernel
theorem dX11_isGrayRaster_2 : decode cX11_isGrayRaster 2 = .ok (.iload_n 2, 1) := by decide +kernel
theorem dX11_isGrayRaster_3 : decode cX11_isGrayRaster 3 = .ok (.aload_n 0, 1) := by decide +kernel
theorem dX11_isGrayRaster_4 : decode cX11_isGrayRaster 4 = .ok (.iload_n 1, 1) := by decide +kernel
theorem dX11_isGrayRaster_5 : decode cX11_isGrayRaster 5 = .ok (.invokevirtual 256, 3) := by decide +kernel
theorem dX11_isGrayRaster_8 : decode cX11_isGrayRaster 8 = .ok (.if_icmp .ge 54, 3) := by decide +kernel
theorem dX11_isGrayRaster_11 : decode cX11_isGrayRaster 11 = .ok (.aload_n 0, 1) := by decide +kernel
theorem dX11_isGrayRaster_12 : decode cX11_isGrayRaster 12 = .ok (.getfield 17, 3) := by decide +kernel
theorem dX11_isGrayRaster_15 : decode cX11_isGrayRaster 15 = .ok (.sipush 4096, 3) := by decide +kernel
theorem dX11_isGrayRaster_18 : decode cX11_isGrayRaster 18 = .ok (.iload_n 1, 1) := by decide +kernel
theorem dX11_isGrayRaster_19 : decode cX11_isGrayRaster 19 = .ok (.imul, 1) := by decide +kernel
theorem dX11_isGrayRaster_20 : decode cX11_isGrayRaster 20 = .ok (.iload_n 2, 1) := by decide +kernel
theorem dX11_isGrayRaster_21 : decode cX11_isGrayRaster 21 = .ok (.iadd, 1) := by decide +kernel
theorem dX11_isGrayRaster_22 : decode cX11_isGrayRaster 22 = .ok (.iaload, 1) := by decide +kernel
theorem dX11_isGrayRaster_23 : decode cX11_isGrayRaster 23 = .ok (.istore_n 3, 1) := by decide +kernel
theorem dX11_isGrayRaster_24 : decode cX11_isGrayRaster 24 = .ok (.iload_n 3, 1) := by decide +kernel
theorem dX11_isGrayRaster_25 : decode cX11_isGrayRaster 25 = .ok (.bipush 24, 2) := by decide +kernel
theorem dX11_isGrayRaster_27 : decode cX11_isGrayRaster 27 = .ok (.iushr, 1) := by decide +kernel
theorem dX11_isGrayRaster_28 : decode cX11_isGrayRaster 28 = .ok (.iload_n 3, 1) := by decide +kernel
theorem dX11_isGrayRaster_29 : decode cX11_isGrayRaster 29 = .ok (.bipush 16, 2) := by decide +kernel
theorem dX11_isGrayRaster_31 : decode cX11_isGrayRaster 31 = .ok (.ishr, 1) := by decide +kernel
theorem dX11_isGrayRaster_32 : decode cX11_isGrayRaster 32 = .ok (.sipush 255, 3) := by decide +kernel
theorem dX11_isGrayRaster_35 : decode cX11_isGrayRaster 35 = .ok (.iand, 1) := by decide +kernel
theorem dX11_isGrayRaster_36 : decode cX11_isGrayRaster 36 = .ok (.if_icmp .ne 18, 3) := by decide +kernel
theorem dX11_isGrayRaster_39 : decode cX11_isGrayRaster 39 = .ok (.iload_n 3, 1) := by decide +kernel
theorem dX11_isGrayRaster_40 : decode cX11_isGrayRaster 40 = .ok (.bipush 24, 2) := by decide +kernel
theorem dX11_isGrayRaster_42 : decode cX11_isGrayRaster 42 = .ok (.iushr, 1) := by decide +kernel
theorem dX11_isGrayRaster_43 : decode cX11_isGrayRaster 43 = .ok (.iload_n 3, 1) := by decide +kernel
theorem dX11_isGrayRaster_44 : decode cX11_isGrayRaster 44 = .ok (.bipush 8, 2) := by decide +kernel
theorem dX11_isGrayRaster_46 : decode cX11_isGrayRaster 46 = .ok (.ishr, 1) := by decide +kernel
theorem dX11_isGrayRaster_47 : decode cX11_isGrayRaster 47 = .ok (.sipush 255, 3) := by decide +kernel
theorem dX11_isGrayRaster_50 : decode cX11_isGrayRaster 50 = .ok (.iand, 1) := by decide +kernel
theorem dX11_isGrayRaster_51 : decode cX11_isGrayRaster 51 = .ok (.if_icmp .eq 5, 3) := by decide +kernel
theorem dX11_isGrayRaster_54 : decode cX11_isGrayRaster 54 = .ok (.iconst 0, 1) := by decide +kernel
theorem dX11_isGrayRaster_55 : decode cX11_isGrayRaster 55 = .ok (.ireturn, 1) := by decide +kernel
theorem dX11_isGrayRaster_56 : decode cX11_isGrayRaster 56 = .ok (.iinc 2 1, 3) := by decide +kernel
theorem dX11_isGrayRaster_59 : decode cX11_isGrayRaster 59 = .ok (.goto (-57), 3) := by decide +kernel
theorem dX11_isGrayRaster_62 : decode cX11_isGrayRaster 62 = .ok (.iconst 1, 1) := by decide +kernel
theorem dX11_isGrayRaster_63 : decode cX11_isGrayRaster 63 = .ok (.ireturn, 1) := by decide +kernel
theorem dX11_isPlain_0 : decode cX11_isPlain 0 = .ok (.iconst 0, 1) := by decide +kernel
theorem dX11_isPlain_1 : decode cX11_isPlain 1 = .ok (.istore_n 2, 1) := by decide +kernel
theorem dX11_isPlain_2 : decode cX11_isPlain 2 = .ok (.iload_n 2, 1) := by decide +kernel
theorem dX11_isPlain_3 : decode cX11_isPlain 3 = .ok (.aload_n 0, 1) := by decide +kernel
theorem dX11_isPlain_4 : decode cX11_isPlain 4 = .ok (.iload_n 1, 1) := by decide +kernel
theorem dX11_isPlain_5 : decode cX11_isPlain 5 = .ok (.invokevirtual 256, 3) := by decide +kernel
theorem dX11_isPlain_8 : decode cX11_isPlain 8 = .ok (.if_icmp .ge 45, 3) := by decide +kernel
theorem dX11_isPlain_11 : decode cX11_isPlain 11 = .ok (.aload_n 0, 1) := by decide +kernel
theorem dX11_isPlain_12 : decode cX11_isPlain 12 = .ok (.getfield 17, 3) := by decide +kernel
theorem dX11_isPlain_15 : decode cX11_isPlain 15 = .ok (.sipush 4096, 3) := by decide +kernel
theorem dX11_isPlain_18 : decode cX11_isPlain 18 = .ok (.iload_n 1, 1) := by decide +kernel
theorem dX11_isPlain_19 : decode cX11_isPlain 19 = .ok (.imul, 1) := by decide +kernel
theorem dX11_isPlain_20 : decode cX11_isPlain 20 = .ok (.iload_n 2, 1) := by decide +kernel
theorem dX11_isPlain_21 : decode cX11_isPlain 21 = .ok (.iadd, 1) := by decide +kernel
theorem dX11_isPlain_22 : decode cX11_isPlain 22 = .ok (.iaload, 1) := by decide +kernel
theorem dX11_isPlain_23 : decode cX11_isPlain 23 = .ok (.sipush 255, 3) := by decide +kernel
theorem dX11_isPlain_26 : decode cX11_isPlain 26 = .ok (.if_icmp .eq 21, 3) := by decide +kernel
theorem dX11_isPlain_29 : decode cX11_isPlain 29 = .ok (.aload_n 0, 1) := by decide +kernel
theorem dX11_isPlain_30 : decode cX11_isPlain 30 = .ok (.getfield 17, 3) := by decide +kernel
theorem dX11_isPlain_33 : decode cX11_isPlain 33 = .ok (.sipush 4096, 3) := by decide +kernel
theorem dX11_isPlain_36 : decode cX11_isPlain 36 = .ok (.iload_n 1, 1) := by decide +kernel
theorem dX11_isPlain_37 : decode cX11_isPlain 37 = .ok (.imul, 1) := by decide +kernel
theorem dX11_isPlain_38 : decode cX11_isPlain 38 = .ok (.iload_n 2, 1) := by decide +kernel
theorem dX11_isPlain_39 : decode cX11_isPlain 39 = .ok (.iadd, 1) := by decide +kernel
theorem dX11_isPlain_40 : decode cX11_isPlain 40 = .ok (.iaload, 1) := by decide +kernel
theorem dX11_isPlain_41 : decode cX11_isPlain 41 = .ok (.iconst (-1), 1) := by decide +kernel
theorem dX11_isPlain_42 : decode cX11_isPlain 42 = .ok (.if_icmp .eq 5, 3) := by decide +kernel
theorem dX11_isPlain_45 : decode cX11_isPlain 45 = .ok (.iconst 0, 1) := by decide +kernel
theorem dX11_isPlain_46 : decode cX11_isPlain 46 = .ok (.ireturn, 1) := by decide +kernel
theorem dX11_isPlain_47 : decode cX11_isPlain 47 = .ok (.iinc 2 1, 3) := by decide +kernel
theorem dX11_isPlain_50 : decode cX11_isPlain 50 = .ok (.goto (-48), 3) := by decide +kernel
theorem dX11_isPlain_53 : decode cX11_isPlain 53 = .ok (.iconst 1, 1) := by decide +kernel
theorem dX11_isPlain_54 : decode cX11_isPlain 54 = .ok (.ireturn, 1) := by decide +kernel
theorem dX11_sift_0 : decode cX11_sift 0 = .ok (.iload_n 1, 1) := by decide +kernel
theorem dX11_sift_1 : decode cX11_sift 1 = .ok (.istore_n 3, 1) := by decide +kernel
theorem dX11_sift_2 : decode cX11_sift 2 = .ok (.aload_n 0, 1) := by decide +kernel
theorem dX11_sift_3 : decode cX11_sift 3 = .ok (.getfield 55, 3) := by decide +kernel
theorem dX11_sift_6 : decode cX11_sift 6 = .ok (.iload_n 1, 1) := by decide +kernel
theorem dX11_sift_7 : decode cX11_sift 7 = .ok (.iaload, 1) := by decide +kernel
theorem dX11_sift_8 : decode cX11_sift 8 = .ok (.istore 4, 2) := by decide +kernel
theorem dX11_sift_10 : decode cX11_sift 10 = .ok (.iconst 1, 1) := by decide +kernel
theorem dX11_sift_11 : decode cX11_sift 11 = .ok (.istore 5, 2) := by decide +kernel
theorem dX11_sift_13 : decode cX11_sift 13 = .ok (.iload 5, 2) := by decide +kernel
theorem dX11_sift_15 : decode cX11_sift 15 = .ok (.ifCond .eq 92, 3) := by decide +kernel
theorem dX11_sift_18 : decode cX11_sift 18 = .ok (.iconst 2, 1) := by decide +kernel
theorem dX11_sift_19 : decode cX11_sift 19 = .ok (.iload_n 3, 1) := by decide +kernel
theorem dX11_sift_20 : decode cX11_sift 20 = .ok (.imul, 1) := by decide +kernel
theorem dX11_sift_21 : decode cX11_sift 21 = .ok (.iconst 1, 1) := by decide +kernel
theorem dX11_sift_22 : decode cX11_sift 22 = .ok (.iadd, 1) := by decide +kernel
theorem dX11_sift_23 : decode cX11_sift 23 = .ok (.iload_n 2, 1) := by decide +kernel
theorem dX11_sift_24 : decode cX11_sift 24 = .ok (.if_icmp .ge 83, 3) := by decide +kernel
theorem dX11_sift_27 : decode cX11_sift 27 = .ok (.iconst 2, 1) := by decide +kernel
theorem dX11_sift_28 : decode cX11_sift 28 = .ok (.iload_n 3, 1) := by decide +kernel
theorem dX11_sift_29 : decode cX11_sift 29 = .ok (.imul, 1) := by decide +kernel
theorem dX11_sift_30 : decode cX11_sift 30 = .ok (.iconst 1, 1) := by decide +kernel
theorem dX11_sift_31 : decode cX11_sift 31 = .ok (.iadd, 1) := by decide +kernel
theorem dX11_sift_32 : decode cX11_sift 32 = .ok (.istore 6, 2) := by decide +kernel
theorem dX11_sift_34 : decode cX11_sift 34 = .ok (.iload 6, 2) := by decide +kernel
theorem dX11_sift_36 : decode cX11_sift 36 = .ok (.iconst 1, 1) := by decide +kernel
theorem dX11_sift_37 : decode cX11_sift 37 = .ok (.iadd, 1) := by decide +kernel
theorem dX11_sift_38 : decode cX11_sift 38 = .ok (.iload_n 2, 1) := by decide +kernel
theorem dX11_sift_39 : decode cX11_sift 39 = .ok (.if_icmp .ge 25, 3) := by decide +kernel
theorem dX11_sift_42 : decode cX11_sift 42 = .ok (.aload_n 0, 1) := by decide +kernel
theorem dX11_sift_43 : decode cX11_sift 43 = .ok (.getfield 55, 3) := by decide +kernel
theorem dX11_sift_46 : decode cX11_sift 46 = .ok (.iload 6, 2) := by decide +kernel
theorem dX11_sift_48 : decode cX11_sift 48 = .ok (.iconst 1, 1) := by decide +kernel
theorem dX11_sift_49 : decode cX11_sift 49 = .ok (.iadd, 1) := by decide +kernel
theorem dX11_sift_50 : decode cX11_sift 50 = .ok (.iaload, 1) := by decide +kernel
theorem dX11_sift_51 : decode cX11_sift 51 = .ok (.aload_n 0, 1) := by decide +kernel
theorem dX11_sift_52 : decode cX11_sift 52 = .ok (.getfield 55, 3) := by decide +kernel
theorem dX11_sift_55 : decode cX11_sift 55 = .ok (.iload 6, 2) := by decide +kernel
theorem dX11_sift_57 : decode cX11_sift 57 = .ok (.iaload, 1) := by decide +kernel
theorem dX11_sift_58 : decode cX11_sift 58 = .ok (.if_icmp .le 6, 3) := by decide +kernel
theorem dX11_sift_61 : decode cX11_sift 61 = .ok (.iinc 6 1, 3) := by decide +kernel
theorem dX11_sift_64 : decode cX11_sift 64 = .ok (.aload_n 0, 1) := by decide +kernel
theorem dX11_sift_65 : decode cX11_sift 65 = .ok (.getfield 55, 3) := by decide +kernel
theorem dX11_sift_68 : decode cX11_sift 68 = .ok (.iload 6, 2) := by decide +kernel
theorem dX11_sift_70 : decode cX11_sift 70 = .ok (.iaload, 1) := by decide +kernel
theorem dX11_sift_71 : decode cX11_sift 71 = .ok (.iload 4, 2) := by decide +kernel
theorem dX11_sift_73 : decode cX11_sift 73 = .ok (.if_icmp .le 7, 3) := by decide +kernel
theorem dX11_sift_76 : decode cX11_sift 76 = .ok (.iconst 1, 1) := by decide +kernel
theorem dX11_sift_77 : decode cX11_sift 77 = .ok (.goto 4, 3) := by decide +kernel
theorem dX11_sift_80 : decode cX11_sift 80 = .ok (.iconst 0, 1) := by decide +kernel
theorem dX11_sift_81 : decode cX11_sift 81 = .ok (.istore 5, 2) := by decide +kernel
theorem dX11_sift_83 : decode cX11_sift 83 = .ok (.iload 5, 2) := by decide +kernel
theorem dX11_sift_85 : decode cX11_sift 85 = .ok (.ifCond .eq 19, 3) := by decide +kernel
theorem dX11_sift_88 : decode cX11_sift 88 = .ok (.aload_n 0, 1) := by decide +kernel
theorem dX11_sift_89 : decode cX11_sift 89 = .ok (.getfield 55, 3) := by decide +kernel
theorem dX11_sift_92 : decode cX11_sift 92 = .ok (.iload_n 3, 1) := by decide +kernel
theorem dX11_sift_93 : decode cX11_sift 93 = .ok (.aload_n 0, 1) := by decide +kernel
theorem dX11_sift_94 : decode cX11_sift 94 = .ok (.getfield 55, 3) := by decide +kernel
theorem dX11_sift_97 : decode cX11_sift 97 = .ok (.iload 6, 2) := by decide +kernel
theorem dX11_sift_99 : decode cX11_sift 99 = .ok (.iaload, 1) := by decide +kernel
theorem dX11_sift_100 : decode cX11_sift 100 = .ok (.iastore, 1) := by decide +kernel
theorem dX11_sift_101 : decode cX11_sift 101 = .ok (.iload 6, 2) := by decide +kernel
theorem dX11_sift_103 : decode cX11_sift 103 = .ok (.istore_n 3, 1) := by decide +kernel
theorem dX11_sift_104 : decode cX11_sift 104 = .ok (.goto (-91), 3) := by decide +kernel
theorem dX11_sift_107 : decode cX11_sift 107 = .ok (.aload_n 0, 1) := by decide +kernel
theorem dX11_sift_108 : decode cX11_sift 108 = .ok (.getfield 55, 3) := by decide +kernel
theorem dX11_sift_111 : decode cX11_sift 111 = .ok (.iload_n 3, 1) := by decide +kernel
theorem dX11_sift_112 : decode cX11_sift 112 = .ok (.iload 4, 2) := by decide +kernel
theorem dX11_sift_114 : decode cX11_sift 114 = .ok (.iastore, 1) := by decide +kernel
theorem dX11_sift_115 : decode cX11_sift 115 = .ok (.return_, 1) := by decide +kernel
theorem dX11_colourCount_0 : decode cX11_colourCount 0 = .ok (.aload_n 0, 1) := by decide +kernel
theorem dX11_colourCount_1 : decode cX11_colourCount 1 = .ok (.iload_n 1, 1) := by decide +kernel
theorem dX11_colourCount_2 : decode cX11_colourCount 2 = .ok (.invokevirtual 256, 3) := by decide +kernel
theorem dX11_colourCount_5 : decode cX11_colourCount 5 = .ok (.istore_n 2, 1) := by decide +kernel
theorem dX11_colourCount_6 : decode cX11_colourCount 6 = .ok (.iconst 0, 1) := by decide +kernel
theorem dX11_colourCount_7 : decode cX11_colourCount 7 = .ok (.istore_n 3, 1) := by decide +kernel
theorem dX11_colourCount_8 : decode cX11_colourCount 8 = .ok (.iload_n 3, 1) := by decide +kernel
theorem dX11_colourCount_9 : decode cX11_colourCount 9 = .ok (.iload_n 2, 1) := by decide +kernel
theorem dX11_colourCount_10 : decode cX11_colourCount 10 = .ok (.if_icmp .ge 27, 3) := by decide +kernel
theorem dX11_colourCount_13 : decode cX11_colourCount 13 = .ok (.aload_n 0, 1) := by decide +kernel
theorem dX11_colourCount_14 : decode cX11_colourCount 14 = .ok (.getfield 55, 3) := by decide +kernel
theorem dX11_colourCount_17 : decode cX11_colourCount 17 = .ok (.iload_n 3, 1) := by decide +kernel
theorem dX11_colourCount_18 : decode cX11_colourCount 18 = .ok (.aload_n 0, 1) := by decide +kernel
theorem dX11_colourCount_19 : decode cX11_colourCount 19 = .ok (.getfield 17, 3) := by decide +kernel
theorem dX11_colourCount_22 : decode cX11_colourCount 22 = .ok (.sipush 4096, 3) := by decide +kernel
theorem dX11_colourCount_25 : decode cX11_colourCount 25 = .ok (.iload_n 1, 1) := by decide +kernel
theorem dX11_colourCount_26 : decode cX11_colourCount 26 = .ok (.imul, 1) := by decide +kernel
theorem dX11_colourCount_27 : decode cX11_colourCount 27 = .ok (.iload_n 3, 1) := by decide +kernel
theorem dX11_colourCount_28 : decode cX11_colourCount 28 = .ok (.iadd, 1) := by decide +kernel
theorem dX11_colourCount_29 : decode cX11_colourCount 29 = .ok (.iaload, 1) := by decide +kernel
theorem dX11_colourCount_30 : decode cX11_colourCount 30 = .ok (.iastore, 1) := by decide +kernel
theorem dX11_colourCount_31 : decode cX11_colourCount 31 = .ok (.iinc 3 1, 3) := by decide +kernel
theorem dX11_colourCount_34 : decode cX11_colourCount 34 = .ok (.goto (-26), 3) := by decide +kernel
theorem dX11_colourCount_37 : decode cX11_colourCount 37 = .ok (.iload_n 2, 1) := by decide +kernel
theorem dX11_colourCount_38 : decode cX11_colourCount 38 = .ok (.iconst 2, 1) := by decide +kernel
theorem dX11_colourCount_39 : decode cX11_colourCount 39 = .ok (.idiv, 1) := by decide +kernel
theorem dX11_colourCount_40 : decode cX11_colourCount 40 = .ok (.iconst 1, 1) := by decide +kernel
theorem dX11_colourCount_41 : decode cX11_colourCount 41 = .ok (.isub, 1) := by decide +kernel
theorem dX11_colourCount_42 : decode cX11_colourCount 42 = .ok (.istore_n 3, 1) := by decide +kernel
theorem dX11_colourCount_43 : decode cX11_colourCount 43 = .ok (.iload_n 3, 1) := by decide +kernel
theorem dX11_colourCount_44 : decode cX11_colourCount 44 = .ok (.ifCond .lt 15, 3) := by decide +kernel
theorem dX11_colourCount_47 : decode cX11_colourCount 47 = .ok (.aload_n 0, 1) := by decide +kernel
theorem dX11_colourCount_48 : decode cX11_colourCount 48 = .ok (.iload_n 3, 1) := by decide +kernel
theorem dX11_colourCount_49 : decode cX11_colourCount 49 = .ok (.iload_n 2, 1) := by decide +kernel
theorem dX11_colourCount_50 : decode cX11_colourCount 50 = .ok (.invokevirtual 259, 3) := by decide +kernel
theorem dX11_colourCount_53 : decode cX11_colourCount 53 = .ok (.iinc 3 (-1), 3) := by decide +kernel
theorem dX11_colourCount_56 : decode cX11_colourCount 56 = .ok (.goto (-13), 3) := by decide +kernel
theorem dX11_colourCount_59 : decode cX11_colourCount 59 = .ok (.iload_n 2, 1) := by decide +kernel
theorem dX11_colourCount_60 : decode cX11_colourCount 60 = .ok (.iconst 1, 1) := by decide +kernel
theorem dX11_colourCount_61 : decode cX11_colourCount 61 = .ok (.isub, 1) := by decide +kernel
theorem dX11_colourCount_62 : decode cX11_colourCount 62 = .ok (.istore_n 3, 1) := by decide +kernel
theorem dX11_colourCount_63 : decode cX11_colourCount 63 = .ok (.iload_n 3, 1) := by decide +kernel
theorem dX11_colourCount_64 : decode cX11_colourCount 64 = .ok (.ifCond .le 43, 3) := by decide +kernel
theorem dX11_colourCount_67 : decode cX11_colourCount 67 = .ok (.aload_n 0, 1) := by decide +kernel
theorem dX11_colourCount_68 : decode cX11_colourCount 68 = .ok (.getfield 55, 3) := by decide +kernel
theorem dX11_colourCount_71 : decode cX11_colourCount 71 = .ok (.iconst 0, 1) := by decide +kernel
theorem dX11_colourCount_72 : decode cX11_colourCount 72 = .ok (.iaload, 1) := by decide +kernel
theorem dX11_colourCount_73 : decode cX11_colourCount 73 = .ok (.istore 4, 2) := by decide +kernel
theorem dX11_colourCount_75 : decode cX11_colourCount 75 = .ok (.aload_n 0, 1) := by decide +kernel
theorem dX11_colourCount_76 : decode cX11_colourCount 76 = .ok (.getfield 55, 3) := by decide +kernel
theorem dX11_colourCount_79 : decode cX11_colourCount 79 = .ok (.iconst 0, 1) := by decide +kernel
theorem dX11_colourCount_80 : decode cX11_colourCount 80 = .ok (.aload_n 0, 1) := by decide +kernel
theorem dX11_colourCount_81 : decode cX11_colourCount 81 = .ok (.getfield 55, 3) := by decide +kernel
theorem dX11_colourCount_84 : decode cX11_colourCount 84 = .ok (.iload_n 3, 1) := by decide +kernel
theorem dX11_colourCount_85 : decode cX11_colourCount 85 = .ok (.iaload, 1) := by decide +kernel
theorem dX11_colourCount_86 : decode cX11_colourCount 86 = .ok (.iastore, 1) := by decide +kernel
theorem dX11_colourCount_87 : decode cX11_colourCount 87 = .ok (.aload_n 0, 1) := by decide +kernel
theorem dX11_colourCount_88 : decode cX11_colourCount 88 = .ok (.getfield 55, 3) := by decide +kernel
