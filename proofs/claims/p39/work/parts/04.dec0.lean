theorem dX0_init_0 : decode cX0_init 0 = .ok (.aload_n 0, 1) := by decide +kernel
theorem dX0_init_1 : decode cX0_init 1 = .ok (.invokespecial 5, 3) := by decide +kernel
theorem dX0_init_4 : decode cX0_init 4 = .ok (.aload_n 0, 1) := by decide +kernel
theorem dX0_init_5 : decode cX0_init 5 = .ok (.bipush 80, 2) := by decide +kernel
theorem dX0_init_7 : decode cX0_init 7 = .ok (.newarray .int, 2) := by decide +kernel
theorem dX0_init_9 : decode cX0_init 9 = .ok (.putfield 11, 3) := by decide +kernel
theorem dX0_init_12 : decode cX0_init 12 = .ok (.aload_n 0, 1) := by decide +kernel
theorem dX0_init_13 : decode cX0_init 13 = .ok (.sipush 4096, 3) := by decide +kernel
theorem dX0_init_16 : decode cX0_init 16 = .ok (.newarray .long, 2) := by decide +kernel
theorem dX0_init_18 : decode cX0_init 18 = .ok (.putfield 15, 3) := by decide +kernel
theorem dX0_init_21 : decode cX0_init 21 = .ok (.aload_n 0, 1) := by decide +kernel
theorem dX0_init_22 : decode cX0_init 22 = .ok (.sipush 4096, 3) := by decide +kernel
theorem dX0_init_25 : decode cX0_init 25 = .ok (.newarray .int, 2) := by decide +kernel
theorem dX0_init_27 : decode cX0_init 27 = .ok (.putfield 19, 3) := by decide +kernel
theorem dX0_init_30 : decode cX0_init 30 = .ok (.aload_n 0, 1) := by decide +kernel
theorem dX0_init_31 : decode cX0_init 31 = .ok (.lconst 1, 1) := by decide +kernel
theorem dX0_init_32 : decode cX0_init 32 = .ok (.putfield 22, 3) := by decide +kernel
theorem dX0_init_35 : decode cX0_init 35 = .ok (.aload_n 0, 1) := by decide +kernel
theorem dX0_init_36 : decode cX0_init 36 = .ok (.aload_n 1, 1) := by decide +kernel
theorem dX0_init_37 : decode cX0_init 37 = .ok (.putfield 26, 3) := by decide +kernel
theorem dX0_init_40 : decode cX0_init 40 = .ok (.return_, 1) := by decide +kernel
theorem dX0_forgetMacros_0 : decode cX0_forgetMacros 0 = .ok (.aload_n 0, 1) := by decide +kernel
theorem dX0_forgetMacros_1 : decode cX0_forgetMacros 1 = .ok (.dup, 1) := by decide +kernel
theorem dX0_forgetMacros_2 : decode cX0_forgetMacros 2 = .ok (.getfield 22, 3) := by decide +kernel
theorem dX0_forgetMacros_5 : decode cX0_forgetMacros 5 = .ok (.lconst 1, 1) := by decide +kernel
theorem dX0_forgetMacros_6 : decode cX0_forgetMacros 6 = .ok (.ladd, 1) := by decide +kernel
theorem dX0_forgetMacros_7 : decode cX0_forgetMacros 7 = .ok (.putfield 22, 3) := by decide +kernel
theorem dX0_forgetMacros_10 : decode cX0_forgetMacros 10 = .ok (.return_, 1) := by decide +kernel
theorem dX0_countProgram_0 : decode cX0_countProgram 0 = .ok (.aload_n 0, 1) := by decide +kernel
theorem dX0_countProgram_1 : decode cX0_countProgram 1 = .ok (.iconst 0, 1) := by decide +kernel
theorem dX0_countProgram_2 : decode cX0_countProgram 2 = .ok (.aload_n 0, 1) := by decide +kernel
theorem dX0_countProgram_3 : decode cX0_countProgram 3 = .ok (.getfield 26, 3) := by decide +kernel
theorem dX0_countProgram_6 : decode cX0_countProgram 6 = .ok (.invokevirtual 30, 3) := by decide +kernel
theorem dX0_countProgram_9 : decode cX0_countProgram 9 = .ok (.bipush 8, 2) := by decide +kernel
theorem dX0_countProgram_11 : decode cX0_countProgram 11 = .ok (.iconst 0, 1) := by decide +kernel
theorem dX0_countProgram_12 : decode cX0_countProgram 12 = .ok (.iconst 0, 1) := by decide +kernel
theorem dX0_countProgram_13 : decode cX0_countProgram 13 = .ok (.invokevirtual 36, 3) := by decide +kernel
theorem dX0_countProgram_16 : decode cX0_countProgram 16 = .ok (.ireturn, 1) := by decide +kernel
theorem dX0_countMacro_0 : decode cX0_countMacro 0 = .ok (.aload_n 0, 1) := by decide +kernel
theorem dX0_countMacro_1 : decode cX0_countMacro 1 = .ok (.getfield 22, 3) := by decide +kernel
theorem dX0_countMacro_4 : decode cX0_countMacro 4 = .ok (.ldc2_w 40, 3) := by decide +kernel
theorem dX0_countMacro_7 : decode cX0_countMacro 7 = .ok (.lmul, 1) := by decide +kernel
theorem dX0_countMacro_8 : decode cX0_countMacro 8 = .ok (.iload_n 1, 1) := by decide +kernel
theorem dX0_countMacro_9 : decode cX0_countMacro 9 = .ok (.i2l, 1) := by decide +kernel
theorem dX0_countMacro_10 : decode cX0_countMacro 10 = .ok (.ladd, 1) := by decide +kernel
theorem dX0_countMacro_11 : decode cX0_countMacro 11 = .ok (.ldc2_w 42, 3) := by decide +kernel
theorem dX0_countMacro_14 : decode cX0_countMacro 14 = .ok (.lmul, 1) := by decide +kernel
theorem dX0_countMacro_15 : decode cX0_countMacro 15 = .ok (.iload_n 2, 1) := by decide +kernel
theorem dX0_countMacro_16 : decode cX0_countMacro 16 = .ok (.i2l, 1) := by decide +kernel
theorem dX0_countMacro_17 : decode cX0_countMacro 17 = .ok (.ladd, 1) := by decide +kernel
theorem dX0_countMacro_18 : decode cX0_countMacro 18 = .ok (.ldc2_w 42, 3) := by decide +kernel
theorem dX0_countMacro_21 : decode cX0_countMacro 21 = .ok (.lmul, 1) := by decide +kernel
theorem dX0_countMacro_22 : decode cX0_countMacro 22 = .ok (.iload_n 3, 1) := by decide +kernel
theorem dX0_countMacro_23 : decode cX0_countMacro 23 = .ok (.i2l, 1) := by decide +kernel
theorem dX0_countMacro_24 : decode cX0_countMacro 24 = .ok (.ladd, 1) := by decide +kernel
theorem dX0_countMacro_25 : decode cX0_countMacro 25 = .ok (.lstore 4, 2) := by decide +kernel
theorem dX0_countMacro_27 : decode cX0_countMacro 27 = .ok (.aload_n 0, 1) := by decide +kernel
theorem dX0_countMacro_28 : decode cX0_countMacro 28 = .ok (.lload 4, 2) := by decide +kernel
theorem dX0_countMacro_30 : decode cX0_countMacro 30 = .ok (.invokevirtual 44, 3) := by decide +kernel
theorem dX0_countMacro_33 : decode cX0_countMacro 33 = .ok (.istore 6, 2) := by decide +kernel
theorem dX0_countMacro_35 : decode cX0_countMacro 35 = .ok (.iload 6, 2) := by decide +kernel
theorem dX0_countMacro_37 : decode cX0_countMacro 37 = .ok (.bipush (-2), 2) := by decide +kernel
theorem dX0_countMacro_39 : decode cX0_countMacro 39 = .ok (.if_icmp .eq 6, 3) := by decide +kernel
theorem dX0_countMacro_42 : decode cX0_countMacro 42 = .ok (.iload 6, 2) := by decide +kernel
theorem dX0_countMacro_44 : decode cX0_countMacro 44 = .ok (.ireturn, 1) := by decide +kernel
theorem dX0_countMacro_45 : decode cX0_countMacro 45 = .ok (.aload_n 0, 1) := by decide +kernel
theorem dX0_countMacro_46 : decode cX0_countMacro 46 = .ok (.getfield 26, 3) := by decide +kernel
theorem dX0_countMacro_49 : decode cX0_countMacro 49 = .ok (.iload_n 1, 1) := by decide +kernel
theorem dX0_countMacro_50 : decode cX0_countMacro 50 = .ok (.invokevirtual 48, 3) := by decide +kernel
theorem dX0_countMacro_53 : decode cX0_countMacro 53 = .ok (.istore 7, 2) := by decide +kernel
theorem dX0_countMacro_55 : decode cX0_countMacro 55 = .ok (.aload_n 0, 1) := by decide +kernel
theorem dX0_countMacro_56 : decode cX0_countMacro 56 = .ok (.iload 7, 2) := by decide +kernel
theorem dX0_countMacro_58 : decode cX0_countMacro 58 = .ok (.iconst 1, 1) := by decide +kernel
theorem dX0_countMacro_59 : decode cX0_countMacro 59 = .ok (.iadd, 1) := by decide +kernel
theorem dX0_countMacro_60 : decode cX0_countMacro 60 = .ok (.aload_n 0, 1) := by decide +kernel
theorem dX0_countMacro_61 : decode cX0_countMacro 61 = .ok (.getfield 26, 3) := by decide +kernel
theorem dX0_countMacro_64 : decode cX0_countMacro 64 = .ok (.iload 7, 2) := by decide +kernel
theorem dX0_countMacro_66 : decode cX0_countMacro 66 = .ok (.invokevirtual 52, 3) := by decide +kernel
theorem dX0_countMacro_69 : decode cX0_countMacro 69 = .ok (.iload_n 1, 1) := by decide +kernel
theorem dX0_countMacro_70 : decode cX0_countMacro 70 = .ok (.iload_n 2, 1) := by decide +kernel
theorem dX0_countMacro_71 : decode cX0_countMacro 71 = .ok (.iload_n 3, 1) := by decide +kernel
theorem dX0_countMacro_72 : decode cX0_countMacro 72 = .ok (.invokevirtual 36, 3) := by decide +kernel
theorem dX0_countMacro_75 : decode cX0_countMacro 75 = .ok (.istore 8, 2) := by decide +kernel
theorem dX0_countMacro_77 : decode cX0_countMacro 77 = .ok (.aload_n 0, 1) := by decide +kernel
theorem dX0_countMacro_78 : decode cX0_countMacro 78 = .ok (.lload 4, 2) := by decide +kernel
theorem dX0_countMacro_80 : decode cX0_countMacro 80 = .ok (.iload 8, 2) := by decide +kernel
theorem dX0_countMacro_82 : decode cX0_countMacro 82 = .ok (.invokevirtual 55, 3) := by decide +kernel
theorem dX0_countMacro_85 : decode cX0_countMacro 85 = .ok (.iload 8, 2) := by decide +kernel
theorem dX0_countMacro_87 : decode cX0_countMacro 87 = .ok (.ireturn, 1) := by decide +kernel
theorem dX0_countLines_0 : decode cX0_countLines 0 = .ok (.iconst 0, 1) := by decide +kernel
theorem dX0_countLines_1 : decode cX0_countLines 1 = .ok (.istore 6, 2) := by decide +kernel
theorem dX0_countLines_3 : decode cX0_countLines 3 = .ok (.iconst 1, 1) := by decide +kernel
theorem dX0_countLines_4 : decode cX0_countLines 4 = .ok (.istore 7, 2) := by decide +kernel
theorem dX0_countLines_6 : decode cX0_countLines 6 = .ok (.iload_n 1, 1) := by decide +kernel
theorem dX0_countLines_7 : decode cX0_countLines 7 = .ok (.istore 8, 2) := by decide +kernel
theorem dX0_countLines_9 : decode cX0_countLines 9 = .ok (.iload 8, 2) := by decide +kernel
theorem dX0_countLines_11 : decode cX0_countLines 11 = .ok (.iload_n 2, 1) := by decide +kernel
theorem dX0_countLines_12 : decode cX0_countLines 12 = .ok (.if_icmp .ge 204, 3) := by decide +kernel
theorem dX0_countLines_15 : decode cX0_countLines 15 = .ok (.aload_n 0, 1) := by decide +kernel
theorem dX0_countLines_16 : decode cX0_countLines 16 = .ok (.getfield 26, 3) := by decide +kernel
theorem dX0_countLines_19 : decode cX0_countLines 19 = .ok (.iload 8, 2) := by decide +kernel
theorem dX0_countLines_21 : decode cX0_countLines 21 = .ok (.invokevirtual 59, 3) := by decide +kernel
theorem dX0_countLines_24 : decode cX0_countLines 24 = .ok (.istore 9, 2) := by decide +kernel
theorem dX0_countLines_26 : decode cX0_countLines 26 = .ok (.iload 9, 2) := by decide +kernel
theorem dX0_countLines_28 : decode cX0_countLines 28 = .ok (.bipush 77, 2) := by decide +kernel
theorem dX0_countLines_30 : decode cX0_countLines 30 = .ok (.if_icmp .ne 22, 3) := by decide +kernel
theorem dX0_countLines_33 : decode cX0_countLines 33 = .ok (.iload 8, 2) := by decide +kernel
theorem dX0_countLines_35 : decode cX0_countLines 35 = .ok (.aload_n 0, 1) := by decide +kernel
theorem dX0_countLines_36 : decode cX0_countLines 36 = .ok (.getfield 26, 3) := by decide +kernel
theorem dX0_countLines_39 : decode cX0_countLines 39 = .ok (.iload 8, 2) := by decide +kernel
theorem dX0_countLines_41 : decode cX0_countLines 41 = .ok (.invokevirtual 52, 3) := by decide +kernel
theorem dX0_countLines_44 : decode cX0_countLines 44 = .ok (.invokestatic 62, 3) := by decide +kernel
theorem dX0_countLines_47 : decode cX0_countLines 47 = .ok (.istore 8, 2) := by decide +kernel
theorem dX0_countLines_49 : decode cX0_countLines 49 = .ok (.goto 161, 3) := by decide +kernel
theorem dX0_countLines_52 : decode cX0_countLines 52 = .ok (.iload 9, 2) := by decide +kernel
theorem dX0_countLines_54 : decode cX0_countLines 54 = .ok (.bipush 69, 2) := by decide +kernel
theorem dX0_countLines_56 : decode cX0_countLines 56 = .ok (.if_icmp .ne 24, 3) := by decide +kernel
theorem dX0_countLines_59 : decode cX0_countLines 59 = .ok (.aload_n 0, 1) := by decide +kernel
theorem dX0_countLines_60 : decode cX0_countLines 60 = .ok (.getfield 11, 3) := by decide +kernel
theorem dX0_countLines_63 : decode cX0_countLines 63 = .ok (.aload_n 0, 1) := by decide +kernel
theorem dX0_countLines_64 : decode cX0_countLines 64 = .ok (.getfield 26, 3) := by decide +kernel
theorem dX0_countLines_67 : decode cX0_countLines 67 = .ok (.iload 8, 2) := by decide +kernel
theorem dX0_countLines_69 : decode cX0_countLines 69 = .ok (.invokevirtual 52, 3) := by decide +kernel
theorem dX0_countLines_72 : decode cX0_countLines 72 = .ok (.invokestatic 68, 3) := by decide +kernel
theorem dX0_countLines_75 : decode cX0_countLines 75 = .ok (.istore 7, 2) := by decide +kernel
theorem dX0_countLines_77 : decode cX0_countLines 77 = .ok (.goto 133, 3) := by decide +kernel
theorem dX0_countLines_80 : decode cX0_countLines 80 = .ok (.iload 9, 2) := by decide +kernel
theorem dX0_countLines_82 : decode cX0_countLines 82 = .ok (.invokestatic 72, 3) := by decide +kernel
theorem dX0_countLines_85 : decode cX0_countLines 85 = .ok (.ifCond .eq 77, 3) := by decide +kernel
theorem dX0_countLines_88 : decode cX0_countLines 88 = .ok (.aload_n 0, 1) := by decide +kernel
theorem dX0_countLines_89 : decode cX0_countLines 89 = .ok (.getfield 26, 3) := by decide +kernel
theorem dX0_countLines_92 : decode cX0_countLines 92 = .ok (.iload 8, 2) := by decide +kernel
theorem dX0_countLines_94 : decode cX0_countLines 94 = .ok (.iload 4, 2) := by decide +kernel
theorem dX0_countLines_96 : decode cX0_countLines 96 = .ok (.iload 5, 2) := by decide +kernel
theorem dX0_countLines_98 : decode cX0_countLines 98 = .ok (.invokevirtual 76, 3) := by decide +kernel
theorem dX0_countLines_101 : decode cX0_countLines 101 = .ok (.istore 10, 2) := by decide +kernel
theorem dX0_countLines_103 : decode cX0_countLines 103 = .ok (.iload 10, 2) := by decide +kernel
theorem dX0_countLines_105 : decode cX0_countLines 105 = .ok (.bipush 9, 2) := by decide +kernel
theorem dX0_countLines_107 : decode cX0_countLines 107 = .ok (.if_icmp .le 5, 3) := by decide +kernel
theorem dX0_countLines_110 : decode cX0_countLines 110 = .ok (.iconst (-1), 1) := by decide +kernel
theorem dX0_countLines_111 : decode cX0_countLines 111 = .ok (.ireturn, 1) := by decide +kernel
theorem dX0_countLines_112 : decode cX0_countLines 112 = .ok (.iload 10, 2) := by decide +kernel
theorem dX0_countLines_114 : decode cX0_countLines 114 = .ok (.ifCond .ne 22, 3) := by decide +kernel
theorem dX0_countLines_117 : decode cX0_countLines 117 = .ok (.iload 8, 2) := by decide +kernel
theorem dX0_countLines_119 : decode cX0_countLines 119 = .ok (.aload_n 0, 1) := by decide +kernel
theorem dX0_countLines_120 : decode cX0_countLines 120 = .ok (.getfield 26, 3) := by decide +kernel
theorem dX0_countLines_123 : decode cX0_countLines 123 = .ok (.iload 8, 2) := by decide +kernel
theorem dX0_countLines_125 : decode cX0_countLines 125 = .ok (.invokevirtual 52, 3) := by decide +kernel
theorem dX0_countLines_128 : decode cX0_countLines 128 = .ok (.invokestatic 62, 3) := by decide +kernel
theorem dX0_countLines_131 : decode cX0_countLines 131 = .ok (.istore 8, 2) := by decide +kernel
theorem dX0_countLines_133 : decode cX0_countLines 133 = .ok (.goto 26, 3) := by decide +kernel
theorem dX0_countLines_136 : decode cX0_countLines 136 = .ok (.aload_n 0, 1) := by decide +kernel
theorem dX0_countLines_137 : decode cX0_countLines 137 = .ok (.getfield 11, 3) := by decide +kernel
theorem dX0_countLines_140 : decode cX0_countLines 140 = .ok (.iload 8, 2) := by decide +kernel
theorem dX0_countLines_142 : decode cX0_countLines 142 = .ok (.iload 7, 2) := by decide +kernel
theorem dX0_countLines_144 : decode cX0_countLines 144 = .ok (.invokestatic 80, 3) := by decide +kernel
theorem dX0_countLines_147 : decode cX0_countLines 147 = .ok (.iload 7, 2) := by decide +kernel
theorem dX0_countLines_149 : decode cX0_countLines 149 = .ok (.i2l, 1) := by decide +kernel
theorem dX0_countLines_150 : decode cX0_countLines 150 = .ok (.iload 10, 2) := by decide +kernel
theorem dX0_countLines_152 : decode cX0_countLines 152 = .ok (.i2l, 1) := by decide +kernel
theorem dX0_countLines_153 : decode cX0_countLines 153 = .ok (.lmul, 1) := by decide +kernel
theorem dX0_countLines_154 : decode cX0_countLines 154 = .ok (.invokestatic 84, 3) := by decide +kernel
theorem dX0_countLines_157 : decode cX0_countLines 157 = .ok (.istore 7, 2) := by decide +kernel
theorem dX0_countLines_159 : decode cX0_countLines 159 = .ok (.goto 51, 3) := by decide +kernel
theorem dX0_countLines_162 : decode cX0_countLines 162 = .ok (.iload 9, 2) := by decide +kernel
theorem dX0_countLines_164 : decode cX0_countLines 164 = .ok (.bipush 67, 2) := by decide +kernel
theorem dX0_countLines_166 : decode cX0_countLines 166 = .ok (.if_icmp .ne 17, 3) := by decide +kernel
theorem dX0_countLines_169 : decode cX0_countLines 169 = .ok (.aload_n 0, 1) := by decide +kernel
theorem dX0_countLines_170 : decode cX0_countLines 170 = .ok (.iload 8, 2) := by decide +kernel
theorem dX0_countLines_172 : decode cX0_countLines 172 = .ok (.iload_n 3, 1) := by decide +kernel
theorem dX0_countLines_173 : decode cX0_countLines 173 = .ok (.iload 4, 2) := by decide +kernel
theorem dX0_countLines_175 : decode cX0_countLines 175 = .ok (.iload 5, 2) := by decide +kernel
theorem dX0_countLines_177 : decode cX0_countLines 177 = .ok (.invokevirtual 87, 3) := by decide +kernel
theorem dX0_countLines_180 : decode cX0_countLines 180 = .ok (.goto 4, 3) := by decide +kernel
theorem dX0_countLines_183 : decode cX0_countLines 183 = .ok (.iconst 1, 1) := by decide +kernel
theorem dX0_countLines_184 : decode cX0_countLines 184 = .ok (.istore 10, 2) := by decide +kernel
theorem dX0_countLines_186 : decode cX0_countLines 186 = .ok (.iload 10, 2) := by decide +kernel
theorem dX0_countLines_188 : decode cX0_countLines 188 = .ok (.iconst (-1), 1) := by decide +kernel
theorem dX0_countLines_189 : decode cX0_countLines 189 = .ok (.if_icmp .ne 5, 3) := by decide +kernel
theorem dX0_countLines_192 : decode cX0_countLines 192 = .ok (.iconst (-1), 1) := by decide +kernel
theorem dX0_countLines_193 : decode cX0_countLines 193 = .ok (.ireturn, 1) := by decide +kernel
theorem dX0_countLines_194 : decode cX0_countLines 194 = .ok (.iload 6, 2) := by decide +kernel
theorem dX0_countLines_196 : decode cX0_countLines 196 = .ok (.i2l, 1) := by decide +kernel
theorem dX0_countLines_197 : decode cX0_countLines 197 = .ok (.iload 7, 2) := by decide +kernel
theorem dX0_countLines_199 : decode cX0_countLines 199 = .ok (.i2l, 1) := by decide +kernel
theorem dX0_countLines_200 : decode cX0_countLines 200 = .ok (.iload 10, 2) := by decide +kernel
theorem dX0_countLines_202 : decode cX0_countLines 202 = .ok (.i2l, 1) := by decide +kernel
theorem dX0_countLines_203 : decode cX0_countLines 203 = .ok (.lmul, 1) := by decide +kernel
theorem dX0_countLines_204 : decode cX0_countLines 204 = .ok (.ladd, 1) := by decide +kernel
theorem dX0_countLines_205 : decode cX0_countLines 205 = .ok (.invokestatic 84, 3) := by decide +kernel
theorem dX0_countLines_208 : decode cX0_countLines 208 = .ok (.istore 6, 2) := by decide +kernel
theorem dX0_countLines_210 : decode cX0_countLines 210 = .ok (.iinc 8 1, 3) := by decide +kernel
theorem dX0_countLines_213 : decode cX0_countLines 213 = .ok (.goto (-204), 3) := by decide +kernel
theorem dX0_countLines_216 : decode cX0_countLines 216 = .ok (.iload 6, 2) := by decide +kernel
theorem dX0_countLines_218 : decode cX0_countLines 218 = .ok (.ireturn, 1) := by decide +kernel
theorem dX0_countCall_0 : decode cX0_countCall 0 = .ok (.aload_n 0, 1) := by decide +kernel
theorem dX0_countCall_1 : decode cX0_countCall 1 = .ok (.getfield 26, 3) := by decide +kernel
theorem dX0_countCall_4 : decode cX0_countCall 4 = .ok (.iload_n 1, 1) := by decide +kernel
theorem dX0_countCall_5 : decode cX0_countCall 5 = .ok (.invokevirtual 91, 3) := by decide +kernel
theorem dX0_countCall_8 : decode cX0_countCall 8 = .ok (.istore 5, 2) := by decide +kernel
theorem dX0_countCall_10 : decode cX0_countCall 10 = .ok (.iload 5, 2) := by decide +kernel
theorem dX0_countCall_12 : decode cX0_countCall 12 = .ok (.ifCond .lt 9, 3) := by decide +kernel
theorem dX0_countCall_15 : decode cX0_countCall 15 = .ok (.iload 5, 2) := by decide +kernel
theorem dX0_countCall_17 : decode cX0_countCall 17 = .ok (.iload_n 2, 1) := by decide +kernel
theorem dX0_countCall_18 : decode cX0_countCall 18 = .ok (.if_icmp .lt 5, 3) := by decide +kernel
theorem dX0_countCall_21 : decode cX0_countCall 21 = .ok (.iconst 0, 1) := by decide +kernel
theorem dX0_countCall_22 : decode cX0_countCall 22 = .ok (.ireturn, 1) := by decide +kernel
theorem dX0_countCall_23 : decode cX0_countCall 23 = .ok (.aload_n 0, 1) := by decide +kernel
theorem dX0_countCall_24 : decode cX0_countCall 24 = .ok (.getfield 26, 3) := by decide +kernel
theorem dX0_countCall_27 : decode cX0_countCall 27 = .ok (.iload_n 1, 1) := by decide +kernel
theorem dX0_countCall_28 : decode cX0_countCall 28 = .ok (.invokevirtual 94, 3) := by decide +kernel
theorem dX0_countCall_31 : decode cX0_countCall 31 = .ok (.iload_n 3, 1) := by decide +kernel
theorem dX0_countCall_32 : decode cX0_countCall 32 = .ok (.iload 4, 2) := by decide +kernel
theorem dX0_countCall_34 : decode cX0_countCall 34 = .ok (.invokestatic 97, 3) := by decide +kernel
theorem dX0_countCall_37 : decode cX0_countCall 37 = .ok (.istore 6, 2) := by decide +kernel
theorem dX0_countCall_39 : decode cX0_countCall 39 = .ok (.aload_n 0, 1) := by decide +kernel
theorem dX0_countCall_40 : decode cX0_countCall 40 = .ok (.getfield 26, 3) := by decide +kernel
theorem dX0_countCall_43 : decode cX0_countCall 43 = .ok (.iload_n 1, 1) := by decide +kernel
theorem dX0_countCall_44 : decode cX0_countCall 44 = .ok (.invokevirtual 100, 3) := by decide +kernel
theorem dX0_countCall_47 : decode cX0_countCall 47 = .ok (.iload_n 3, 1) := by decide +kernel
theorem dX0_countCall_48 : decode cX0_countCall 48 = .ok (.iload 4, 2) := by decide +kernel
theorem dX0_countCall_50 : decode cX0_countCall 50 = .ok (.invokestatic 97, 3) := by decide +kernel
theorem dX0_countCall_53 : decode cX0_countCall 53 = .ok (.istore 7, 2) := by decide +kernel
theorem dX0_countCall_55 : decode cX0_countCall 55 = .ok (.aload_n 0, 1) := by decide +kernel
theorem dX0_countCall_56 : decode cX0_countCall 56 = .ok (.iload 5, 2) := by decide +kernel
theorem dX0_countCall_58 : decode cX0_countCall 58 = .ok (.iload 6, 2) := by decide +kernel
theorem dX0_countCall_60 : decode cX0_countCall 60 = .ok (.iload 7, 2) := by decide +kernel
theorem dX0_countCall_62 : decode cX0_countCall 62 = .ok (.invokevirtual 103, 3) := by decide +kernel
theorem dX0_countCall_65 : decode cX0_countCall 65 = .ok (.ireturn, 1) := by decide +kernel
theorem dX0_limited_0 : decode cX0_limited 0 = .ok (.lload_n 0, 1) := by decide +kernel
theorem dX0_limited_1 : decode cX0_limited 1 = .ok (.ldc2_w 106, 3) := by decide +kernel
theorem dX0_limited_4 : decode cX0_limited 4 = .ok (.invokestatic 108, 3) := by decide +kernel
theorem dX0_limited_7 : decode cX0_limited 7 = .ok (.l2i, 1) := by decide +kernel
theorem dX0_limited_8 : decode cX0_limited 8 = .ok (.ireturn, 1) := by decide +kernel
theorem dX0_recall_0 : decode cX0_recall 0 = .ok (.aload_n 0, 1) := by decide +kernel
theorem dX0_recall_1 : decode cX0_recall 1 = .ok (.lload_n 1, 1) := by decide +kernel
theorem dX0_recall_2 : decode cX0_recall 2 = .ok (.invokevirtual 112, 3) := by decide +kernel
theorem dX0_recall_5 : decode cX0_recall 5 = .ok (.istore_n 3, 1) := by decide +kernel
theorem dX0_recall_6 : decode cX0_recall 6 = .ok (.iload_n 3, 1) := by decide +kernel
theorem dX0_recall_7 : decode cX0_recall 7 = .ok (.ifCond .lt 25, 3) := by decide +kernel
theorem dX0_recall_10 : decode cX0_recall 10 = .ok (.iload_n 3, 1) := by decide +kernel
theorem dX0_recall_11 : decode cX0_recall 11 = .ok (.sipush 4096, 3) := by decide +kernel
theorem dX0_recall_14 : decode cX0_recall 14 = .ok (.if_icmp .ge 18, 3) := by decide +kernel
theorem dX0_recall_17 : decode cX0_recall 17 = .ok (.aload_n 0, 1) := by decide +kernel
theorem dX0_recall_18 : decode cX0_recall 18 = .ok (.getfield 15, 3) := by decide +kernel
theorem dX0_recall_21 : decode cX0_recall 21 = .ok (.iload_n 3, 1) := by decide +kernel
theorem dX0_recall_22 : decode cX0_recall 22 = .ok (.laload, 1) := by decide +kernel
theorem dX0_recall_23 : decode cX0_recall 23 = .ok (.lload_n 1, 1) := by decide +kernel
theorem dX0_recall_24 : decode cX0_recall 24 = .ok (.lcmp, 1) := by decide +kernel
theorem dX0_recall_25 : decode cX0_recall 25 = .ok (.ifCond .ne 7, 3) := by decide +kernel
theorem dX0_recall_28 : decode cX0_recall 28 = .ok (.iconst 1, 1) := by decide +kernel
theorem dX0_recall_29 : decode cX0_recall 29 = .ok (.goto 4, 3) := by decide +kernel
theorem dX0_recall_32 : decode cX0_recall 32 = .ok (.iconst 0, 1) := by decide +kernel
theorem dX0_recall_33 : decode cX0_recall 33 = .ok (.istore 4, 2) := by decide +kernel
theorem dX0_recall_35 : decode cX0_recall 35 = .ok (.iload 4, 2) := by decide +kernel
theorem dX0_recall_37 : decode cX0_recall 37 = .ok (.ifCond .eq 12, 3) := by decide +kernel
theorem dX0_recall_40 : decode cX0_recall 40 = .ok (.aload_n 0, 1) := by decide +kernel
theorem dX0_recall_41 : decode cX0_recall 41 = .ok (.getfield 19, 3) := by decide +kernel
theorem dX0_recall_44 : decode cX0_recall 44 = .ok (.iload_n 3, 1) := by decide +kernel
theorem dX0_recall_45 : decode cX0_recall 45 = .ok (.iaload, 1) := by decide +kernel
theorem dX0_recall_46 : decode cX0_recall 46 = .ok (.goto 5, 3) := by decide +kernel
theorem dX0_recall_49 : decode cX0_recall 49 = .ok (.bipush (-2), 2) := by decide +kernel
theorem dX0_recall_51 : decode cX0_recall 51 = .ok (.ireturn, 1) := by decide +kernel
theorem dX0_remember_0 : decode cX0_remember 0 = .ok (.aload_n 0, 1) := by decide +kernel
theorem dX0_remember_1 : decode cX0_remember 1 = .ok (.lload_n 1, 1) := by decide +kernel
theorem dX0_remember_2 : decode cX0_remember 2 = .ok (.invokevirtual 112, 3) := by decide +kernel
theorem dX0_remember_5 : decode cX0_remember 5 = .ok (.istore 4, 2) := by decide +kernel
theorem dX0_remember_7 : decode cX0_remember 7 = .ok (.iload 4, 2) := by decide +kernel
theorem dX0_remember_9 : decode cX0_remember 9 = .ok (.ifCond .lt 27, 3) := by decide +kernel
theorem dX0_remember_12 : decode cX0_remember 12 = .ok (.iload 4, 2) := by decide +kernel
theorem dX0_remember_14 : decode cX0_remember 14 = .ok (.sipush 4096, 3) := by decide +kernel
theorem dX0_remember_17 : decode cX0_remember 17 = .ok (.if_icmp .ge 19, 3) := by decide +kernel
theorem dX0_remember_20 : decode cX0_remember 20 = .ok (.aload_n 0, 1) := by decide +kernel
theorem dX0_remember_21 : decode cX0_remember 21 = .ok (.getfield 15, 3) := by decide +kernel
theorem dX0_remember_24 : decode cX0_remember 24 = .ok (.iload 4, 2) := by decide +kernel
theorem dX0_remember_26 : decode cX0_remember 26 = .ok (.lload_n 1, 1) := by decide +kernel
theorem dX0_remember_27 : decode cX0_remember 27 = .ok (.lastore, 1) := by decide +kernel
theorem dX0_remember_28 : decode cX0_remember 28 = .ok (.aload_n 0, 1) := by decide +kernel
theorem dX0_remember_29 : decode cX0_remember 29 = .ok (.getfield 19, 3) := by decide +kernel
theorem dX0_remember_32 : decode cX0_remember 32 = .ok (.iload 4, 2) := by decide +kernel
theorem dX0_remember_34 : decode cX0_remember 34 = .ok (.iload_n 3, 1) := by decide +kernel
theorem dX0_remember_35 : decode cX0_remember 35 = .ok (.iastore, 1) := by decide +kernel
theorem dX0_remember_36 : decode cX0_remember 36 = .ok (.return_, 1) := by decide +kernel
theorem dX0_placeOf_0 : decode cX0_placeOf 0 = .ok (.lload_n 1, 1) := by decide +kernel
theorem dX0_placeOf_1 : decode cX0_placeOf 1 = .ok (.ldc2_w 115, 3) := by decide +kernel
theorem dX0_placeOf_4 : decode cX0_placeOf 4 = .ok (.lmul, 1) := by decide +kernel
theorem dX0_placeOf_5 : decode cX0_placeOf 5 = .ok (.bipush 52, 2) := by decide +kernel
theorem dX0_placeOf_7 : decode cX0_placeOf 7 = .ok (.lushr, 1) := by decide +kernel
theorem dX0_placeOf_8 : decode cX0_placeOf 8 = .ok (.l2i, 1) := by decide +kernel
theorem dX0_placeOf_9 : decode cX0_placeOf 9 = .ok (.istore_n 3, 1) := by decide +kernel
theorem dX0_placeOf_10 : decode cX0_placeOf 10 = .ok (.iload_n 3, 1) := by decide +kernel
theorem dX0_placeOf_11 : decode cX0_placeOf 11 = .ok (.sipush 4095, 3) := by decide +kernel
theorem dX0_placeOf_14 : decode cX0_placeOf 14 = .ok (.iand, 1) := by decide +kernel
theorem dX0_placeOf_15 : decode cX0_placeOf 15 = .ok (.istore 4, 2) := by decide +kernel
theorem dX0_placeOf_17 : decode cX0_placeOf 17 = .ok (.bipush 7, 2) := by decide +kernel
theorem dX0_placeOf_19 : decode cX0_placeOf 19 = .ok (.istore 5, 2) := by decide +kernel
theorem dX0_placeOf_21 : decode cX0_placeOf 21 = .ok (.iload 5, 2) := by decide +kernel
theorem dX0_placeOf_23 : decode cX0_placeOf 23 = .ok (.ifCond .lt 57, 3) := by decide +kernel
theorem dX0_placeOf_26 : decode cX0_placeOf 26 = .ok (.iload_n 3, 1) := by decide +kernel
theorem dX0_placeOf_27 : decode cX0_placeOf 27 = .ok (.iload 5, 2) := by decide +kernel
theorem dX0_placeOf_29 : decode cX0_placeOf 29 = .ok (.iadd, 1) := by decide +kernel
theorem dX0_placeOf_30 : decode cX0_placeOf 30 = .ok (.sipush 4095, 3) := by decide +kernel
theorem dX0_placeOf_33 : decode cX0_placeOf 33 = .ok (.iand, 1) := by decide +kernel
theorem dX0_placeOf_34 : decode cX0_placeOf 34 = .ok (.istore 6, 2) := by decide +kernel
theorem dX0_placeOf_36 : decode cX0_placeOf 36 = .ok (.aload_n 0, 1) := by decide +kernel
theorem dX0_placeOf_37 : decode cX0_placeOf 37 = .ok (.getfield 15, 3) := by decide +kernel
theorem dX0_placeOf_40 : decode cX0_placeOf 40 = .ok (.iload 6, 2) := by decide +kernel
theorem dX0_placeOf_42 : decode cX0_placeOf 42 = .ok (.laload, 1) := by decide +kernel
theorem dX0_placeOf_43 : decode cX0_placeOf 43 = .ok (.lload_n 1, 1) := by decide +kernel
theorem dX0_placeOf_44 : decode cX0_placeOf 44 = .ok (.lcmp, 1) := by decide +kernel
theorem dX0_placeOf_45 : decode cX0_placeOf 45 = .ok (.ifCond .ne 6, 3) := by decide +kernel
theorem dX0_placeOf_48 : decode cX0_placeOf 48 = .ok (.iload 6, 2) := by decide +kernel
theorem dX0_placeOf_50 : decode cX0_placeOf 50 = .ok (.ireturn, 1) := by decide +kernel
theorem dX0_placeOf_51 : decode cX0_placeOf 51 = .ok (.aload_n 0, 1) := by decide +kernel
theorem dX0_placeOf_52 : decode cX0_placeOf 52 = .ok (.getfield 15, 3) := by decide +kernel
theorem dX0_placeOf_55 : decode cX0_placeOf 55 = .ok (.iload 6, 2) := by decide +kernel
theorem dX0_placeOf_57 : decode cX0_placeOf 57 = .ok (.laload, 1) := by decide +kernel
theorem dX0_placeOf_58 : decode cX0_placeOf 58 = .ok (.aload_n 0, 1) := by decide +kernel
theorem dX0_placeOf_59 : decode cX0_placeOf 59 = .ok (.getfield 22, 3) := by decide +kernel
theorem dX0_placeOf_62 : decode cX0_placeOf 62 = .ok (.ldc2_w 117, 3) := by decide +kernel
theorem dX0_placeOf_65 : decode cX0_placeOf 65 = .ok (.lmul, 1) := by decide +kernel
theorem dX0_placeOf_66 : decode cX0_placeOf 66 = .ok (.lcmp, 1) := by decide +kernel
theorem dX0_placeOf_67 : decode cX0_placeOf 67 = .ok (.ifCond .ge 7, 3) := by decide +kernel
theorem dX0_placeOf_70 : decode cX0_placeOf 70 = .ok (.iload 6, 2) := by decide +kernel
theorem dX0_placeOf_72 : decode cX0_placeOf 72 = .ok (.istore 4, 2) := by decide +kernel
theorem dX0_placeOf_74 : decode cX0_placeOf 74 = .ok (.iinc 5 (-1), 3) := by decide +kernel
theorem dX0_placeOf_77 : decode cX0_placeOf 77 = .ok (.goto (-56), 3) := by decide +kernel
theorem dX0_placeOf_80 : decode cX0_placeOf 80 = .ok (.iload 4, 2) := by decide +kernel
theorem dX0_placeOf_82 : decode cX0_placeOf 82 = .ok (.ireturn, 1) := by decide +kernel
theorem dX1_init_0 : decode cX1_init 0 = .ok (.aload_n 0, 1) := by decide +kernel
theorem dX1_init_1 : decode cX1_init 1 = .ok (.invokespecial 3, 3) := by decide +kernel
theorem dX1_init_4 : decode cX1_init 4 = .ok (.aload_n 0, 1) := by decide +kernel
theorem dX1_init_5 : decode cX1_init 5 = .ok (.bipush 80, 2) := by decide +kernel
theorem dX1_init_7 : decode cX1_init 7 = .ok (.newarray .int, 2) := by decide +kernel
theorem dX1_init_9 : decode cX1_init 9 = .ok (.putfield 9, 3) := by decide +kernel
theorem dX1_init_12 : decode cX1_init 12 = .ok (.aload_n 0, 1) := by decide +kernel
theorem dX1_init_13 : decode cX1_init 13 = .ok (.bipush 9, 2) := by decide +kernel
theorem dX1_init_15 : decode cX1_init 15 = .ok (.newarray .int, 2) := by decide +kernel
theorem dX1_init_17 : decode cX1_init 17 = .ok (.putfield 15, 3) := by decide +kernel
theorem dX1_init_20 : decode cX1_init 20 = .ok (.aload_n 0, 1) := by decide +kernel
theorem dX1_init_21 : decode cX1_init 21 = .ok (.bipush 18, 2) := by decide +kernel
theorem dX1_init_23 : decode cX1_init 23 = .ok (.newarray .int, 2) := by decide +kernel
theorem dX1_init_25 : decode cX1_init 25 = .ok (.putfield 18, 3) := by decide +kernel
theorem dX1_init_28 : decode cX1_init 28 = .ok (.aload_n 0, 1) := by decide +kernel
theorem dX1_init_29 : decode cX1_init 29 = .ok (.bipush 18, 2) := by decide +kernel
theorem dX1_init_31 : decode cX1_init 31 = .ok (.newarray .int, 2) := by decide +kernel
theorem dX1_init_33 : decode cX1_init 33 = .ok (.putfield 21, 3) := by decide +kernel
theorem dX1_init_36 : decode cX1_init 36 = .ok (.aload_n 0, 1) := by decide +kernel
theorem dX1_init_37 : decode cX1_init 37 = .ok (.iconst 0, 1) := by decide +kernel
theorem dX1_init_38 : decode cX1_init 38 = .ok (.putfield 24, 3) := by decide +kernel
theorem dX1_init_41 : decode cX1_init 41 = .ok (.aload_n 0, 1) := by decide +kernel
theorem dX1_init_42 : decode cX1_init 42 = .ok (.aload_n 1, 1) := by decide +kernel
theorem dX1_init_43 : decode cX1_init 43 = .ok (.putfield 28, 3) := by decide +kernel
theorem dX1_init_46 : decode cX1_init 46 = .ok (.aload_n 0, 1) := by decide +kernel
theorem dX1_init_47 : decode cX1_init 47 = .ok (.aload_n 2, 1) := by decide +kernel
theorem dX1_init_48 : decode cX1_init 48 = .ok (.putfield 32, 3) := by decide +kernel
theorem dX1_init_51 : decode cX1_init 51 = .ok (.aload_n 0, 1) := by decide +kernel
theorem dX1_init_52 : decode cX1_init 52 = .ok (.aload_n 3, 1) := by decide +kernel
theorem dX1_init_53 : decode cX1_init 53 = .ok (.putfield 36, 3) := by decide +kernel
theorem dX1_init_56 : decode cX1_init 56 = .ok (.return_, 1) := by decide +kernel
theorem dX1_faultKind_0 : decode cX1_faultKind 0 = .ok (.aload_n 0, 1) := by decide +kernel
theorem dX1_faultKind_1 : decode cX1_faultKind 1 = .ok (.getfield 24, 3) := by decide +kernel
theorem dX1_faultKind_4 : decode cX1_faultKind 4 = .ok (.ireturn, 1) := by decide +kernel
theorem dX1_lineOfFault_0 : decode cX1_lineOfFault 0 = .ok (.aload_n 0, 1) := by decide +kernel
theorem dX1_lineOfFault_1 : decode cX1_lineOfFault 1 = .ok (.getfield 40, 3) := by decide +kernel
theorem dX1_lineOfFault_4 : decode cX1_lineOfFault 4 = .ok (.ireturn, 1) := by decide +kernel
theorem dX1_expandProgram_0 : decode cX1_expandProgram 0 = .ok (.aload_n 0, 1) := by decide +kernel
theorem dX1_expandProgram_1 : decode cX1_expandProgram 1 = .ok (.getfield 32, 3) := by decide +kernel
theorem dX1_expandProgram_4 : decode cX1_expandProgram 4 = .ok (.invokevirtual 43, 3) := by decide +kernel
theorem dX1_expandProgram_7 : decode cX1_expandProgram 7 = .ok (.aload_n 0, 1) := by decide +kernel
theorem dX1_expandProgram_8 : decode cX1_expandProgram 8 = .ok (.getfield 36, 3) := by decide +kernel
theorem dX1_expandProgram_11 : decode cX1_expandProgram 11 = .ok (.invokevirtual 48, 3) := by decide +kernel
theorem dX1_expandProgram_14 : decode cX1_expandProgram 14 = .ok (.aload_n 0, 1) := by decide +kernel
theorem dX1_expandProgram_15 : decode cX1_expandProgram 15 = .ok (.iconst 0, 1) := by decide +kernel
theorem dX1_expandProgram_16 : decode cX1_expandProgram 16 = .ok (.putfield 53, 3) := by decide +kernel
theorem dX1_expandProgram_19 : decode cX1_expandProgram 19 = .ok (.aload_n 0, 1) := by decide +kernel
theorem dX1_expandProgram_20 : decode cX1_expandProgram 20 = .ok (.iconst 0, 1) := by decide +kernel
theorem dX1_expandProgram_21 : decode cX1_expandProgram 21 = .ok (.putfield 56, 3) := by decide +kernel
theorem dX1_expandProgram_24 : decode cX1_expandProgram 24 = .ok (.aload_n 0, 1) := by decide +kernel
theorem dX1_expandProgram_25 : decode cX1_expandProgram 25 = .ok (.bipush 110, 2) := by decide +kernel
theorem dX1_expandProgram_27 : decode cX1_expandProgram 27 = .ok (.putfield 24, 3) := by decide +kernel
theorem dX1_expandProgram_30 : decode cX1_expandProgram 30 = .ok (.aload_n 0, 1) := by decide +kernel
theorem dX1_expandProgram_31 : decode cX1_expandProgram 31 = .ok (.getfield 28, 3) := by decide +kernel
theorem dX1_expandProgram_34 : decode cX1_expandProgram 34 = .ok (.invokevirtual 59, 3) := by decide +kernel
theorem dX1_expandProgram_37 : decode cX1_expandProgram 37 = .ok (.istore_n 1, 1) := by decide +kernel
theorem dX1_expandProgram_38 : decode cX1_expandProgram 38 = .ok (.iload_n 1, 1) := by decide +kernel
theorem dX1_expandProgram_39 : decode cX1_expandProgram 39 = .ok (.iconst (-1), 1) := by decide +kernel
theorem dX1_expandProgram_40 : decode cX1_expandProgram 40 = .ok (.if_icmp .eq 11, 3) := by decide +kernel
theorem dX1_expandProgram_43 : decode cX1_expandProgram 43 = .ok (.aload_n 0, 1) := by decide +kernel
theorem dX1_expandProgram_44 : decode cX1_expandProgram 44 = .ok (.bipush 98, 2) := by decide +kernel
theorem dX1_expandProgram_46 : decode cX1_expandProgram 46 = .ok (.iload_n 1, 1) := by decide +kernel
theorem dX1_expandProgram_47 : decode cX1_expandProgram 47 = .ok (.invokevirtual 65, 3) := by decide +kernel
theorem dX1_expandProgram_50 : decode cX1_expandProgram 50 = .ok (.return_, 1) := by decide +kernel
theorem dX1_expandProgram_51 : decode cX1_expandProgram 51 = .ok (.iconst 0, 1) := by decide +kernel
theorem dX1_expandProgram_52 : decode cX1_expandProgram 52 = .ok (.istore_n 2, 1) := by decide +kernel
theorem dX1_expandProgram_53 : decode cX1_expandProgram 53 = .ok (.iconst 0, 1) := by decide +kernel
theorem dX1_expandProgram_54 : decode cX1_expandProgram 54 = .ok (.istore_n 3, 1) := by decide +kernel
theorem dX1_expandProgram_55 : decode cX1_expandProgram 55 = .ok (.iload_n 3, 1) := by decide +kernel
theorem dX1_expandProgram_56 : decode cX1_expandProgram 56 = .ok (.ldc 69, 2) := by decide +kernel
theorem dX1_expandProgram_58 : decode cX1_expandProgram 58 = .ok (.if_icmp .ge 35, 3) := by decide +kernel
theorem dX1_expandProgram_61 : decode cX1_expandProgram 61 = .ok (.iload_n 2, 1) := by decide +kernel
theorem dX1_expandProgram_62 : decode cX1_expandProgram 62 = .ok (.aload_n 0, 1) := by decide +kernel
theorem dX1_expandProgram_63 : decode cX1_expandProgram 63 = .ok (.getfield 28, 3) := by decide +kernel
theorem dX1_expandProgram_66 : decode cX1_expandProgram 66 = .ok (.invokevirtual 70, 3) := by decide +kernel
theorem dX1_expandProgram_69 : decode cX1_expandProgram 69 = .ok (.if_icmp .ge 24, 3) := by decide +kernel
theorem dX1_expandProgram_72 : decode cX1_expandProgram 72 = .ok (.aload_n 0, 1) := by decide +kernel
theorem dX1_expandProgram_73 : decode cX1_expandProgram 73 = .ok (.getfield 24, 3) := by decide +kernel
theorem dX1_expandProgram_76 : decode cX1_expandProgram 76 = .ok (.bipush 110, 2) := by decide +kernel
theorem dX1_expandProgram_78 : decode cX1_expandProgram 78 = .ok (.if_icmp .ne 15, 3) := by decide +kernel
theorem dX1_expandProgram_81 : decode cX1_expandProgram 81 = .ok (.aload_n 0, 1) := by decide +kernel
theorem dX1_expandProgram_82 : decode cX1_expandProgram 82 = .ok (.iload_n 2, 1) := by decide +kernel
theorem dX1_expandProgram_83 : decode cX1_expandProgram 83 = .ok (.invokevirtual 73, 3) := by decide +kernel
theorem dX1_expandProgram_86 : decode cX1_expandProgram 86 = .ok (.istore_n 2, 1) := by decide +kernel
theorem dX1_expandProgram_87 : decode cX1_expandProgram 87 = .ok (.iinc 3 1, 3) := by decide +kernel
theorem dX1_expandProgram_90 : decode cX1_expandProgram 90 = .ok (.goto (-35), 3) := by decide +kernel
theorem dX1_expandProgram_93 : decode cX1_expandProgram 93 = .ok (.aload_n 0, 1) := by decide +kernel
theorem dX1_expandProgram_94 : decode cX1_expandProgram 94 = .ok (.getfield 24, 3) := by decide +kernel
theorem dX1_expandProgram_97 : decode cX1_expandProgram 97 = .ok (.bipush 110, 2) := by decide +kernel
theorem dX1_expandProgram_99 : decode cX1_expandProgram 99 = .ok (.if_icmp .ne 7, 3) := by decide +kernel
theorem dX1_expandProgram_102 : decode cX1_expandProgram 102 = .ok (.aload_n 0, 1) := by decide +kernel
theorem dX1_expandProgram_103 : decode cX1_expandProgram 103 = .ok (.invokevirtual 77, 3) := by decide +kernel
theorem dX1_expandProgram_106 : decode cX1_expandProgram 106 = .ok (.return_, 1) := by decide +kernel
theorem dX1_findNames_0 : decode cX1_findNames 0 = .ok (.aload_n 0, 1) := by decide +kernel
theorem dX1_findNames_1 : decode cX1_findNames 1 = .ok (.getfield 36, 3) := by decide +kernel
theorem dX1_findNames_4 : decode cX1_findNames 4 = .ok (.invokevirtual 80, 3) := by decide +kernel
theorem dX1_findNames_7 : decode cX1_findNames 7 = .ok (.aload_n 0, 1) := by decide +kernel
theorem dX1_findNames_8 : decode cX1_findNames 8 = .ok (.getfield 32, 3) := by decide +kernel
theorem dX1_findNames_11 : decode cX1_findNames 11 = .ok (.invokevirtual 83, 3) := by decide +kernel
theorem dX1_findNames_14 : decode cX1_findNames 14 = .ok (.istore_n 1, 1) := by decide +kernel
theorem dX1_findNames_15 : decode cX1_findNames 15 = .ok (.iload_n 1, 1) := by decide +kernel
theorem dX1_findNames_16 : decode cX1_findNames 16 = .ok (.iconst (-1), 1) := by decide +kernel
theorem dX1_findNames_17 : decode cX1_findNames 17 = .ok (.if_icmp .eq 17, 3) := by decide +kernel
theorem dX1_findNames_20 : decode cX1_findNames 20 = .ok (.aload_n 0, 1) := by decide +kernel
theorem dX1_findNames_21 : decode cX1_findNames 21 = .ok (.bipush 117, 2) := by decide +kernel
theorem dX1_findNames_23 : decode cX1_findNames 23 = .ok (.aload_n 0, 1) := by decide +kernel
theorem dX1_findNames_24 : decode cX1_findNames 24 = .ok (.getfield 32, 3) := by decide +kernel
theorem dX1_findNames_27 : decode cX1_findNames 27 = .ok (.iload_n 1, 1) := by decide +kernel
theorem dX1_findNames_28 : decode cX1_findNames 28 = .ok (.invokevirtual 86, 3) := by decide +kernel
theorem dX1_findNames_31 : decode cX1_findNames 31 = .ok (.invokevirtual 65, 3) := by decide +kernel
theorem dX1_findNames_34 : decode cX1_findNames 34 = .ok (.return_, 1) := by decide +kernel
theorem dX1_fail_0 : decode cX1_fail 0 = .ok (.aload_n 0, 1) := by decide +kernel
theorem dX1_fail_1 : decode cX1_fail 1 = .ok (.iload_n 1, 1) := by decide +kernel
theorem dX1_fail_2 : decode cX1_fail 2 = .ok (.putfield 24, 3) := by decide +kernel
theorem dX1_fail_5 : decode cX1_fail 5 = .ok (.aload_n 0, 1) := by decide +kernel
theorem dX1_fail_6 : decode cX1_fail 6 = .ok (.iload_n 2, 1) := by decide +kernel
theorem dX1_fail_7 : decode cX1_fail 7 = .ok (.putfield 40, 3) := by decide +kernel
theorem dX1_fail_10 : decode cX1_fail 10 = .ok (.return_, 1) := by decide +kernel
theorem dX1_expandLine_0 : decode cX1_expandLine 0 = .ok (.aload_n 0, 1) := by decide +kernel
theorem dX1_expandLine_1 : decode cX1_expandLine 1 = .ok (.getfield 28, 3) := by decide +kernel
theorem dX1_expandLine_4 : decode cX1_expandLine 4 = .ok (.iload_n 1, 1) := by decide +kernel
theorem dX1_expandLine_5 : decode cX1_expandLine 5 = .ok (.invokevirtual 89, 3) := by decide +kernel
theorem dX1_expandLine_8 : decode cX1_expandLine 8 = .ok (.istore_n 2, 1) := by decide +kernel
theorem dX1_expandLine_9 : decode cX1_expandLine 9 = .ok (.iload_n 2, 1) := by decide +kernel
theorem dX1_expandLine_10 : decode cX1_expandLine 10 = .ok (.bipush 77, 2) := by decide +kernel
theorem dX1_expandLine_12 : decode cX1_expandLine 12 = .ok (.if_icmp .ne 14, 3) := by decide +kernel
theorem dX1_expandLine_15 : decode cX1_expandLine 15 = .ok (.aload_n 0, 1) := by decide +kernel
theorem dX1_expandLine_16 : decode cX1_expandLine 16 = .ok (.getfield 28, 3) := by decide +kernel
theorem dX1_expandLine_19 : decode cX1_expandLine 19 = .ok (.iload_n 1, 1) := by decide +kernel
theorem dX1_expandLine_20 : decode cX1_expandLine 20 = .ok (.invokevirtual 92, 3) := by decide +kernel
theorem dX1_expandLine_23 : decode cX1_expandLine 23 = .ok (.iconst 1, 1) := by decide +kernel
theorem dX1_expandLine_24 : decode cX1_expandLine 24 = .ok (.iadd, 1) := by decide +kernel
theorem dX1_expandLine_25 : decode cX1_expandLine 25 = .ok (.ireturn, 1) := by decide +kernel
theorem dX1_expandLine_26 : decode cX1_expandLine 26 = .ok (.iload_n 2, 1) := by decide +kernel
theorem dX1_expandLine_27 : decode cX1_expandLine 27 = .ok (.bipush 78, 2) := by decide +kernel
theorem dX1_expandLine_29 : decode cX1_expandLine 29 = .ok (.if_icmp .ne 9, 3) := by decide +kernel
theorem dX1_expandLine_32 : decode cX1_expandLine 32 = .ok (.aload_n 0, 1) := by decide +kernel
theorem dX1_expandLine_33 : decode cX1_expandLine 33 = .ok (.iload_n 1, 1) := by decide +kernel
theorem dX1_expandLine_34 : decode cX1_expandLine 34 = .ok (.invokevirtual 95, 3) := by decide +kernel
theorem dX1_expandLine_37 : decode cX1_expandLine 37 = .ok (.ireturn, 1) := by decide +kernel
theorem dX1_expandLine_38 : decode cX1_expandLine 38 = .ok (.iload_n 2, 1) := by decide +kernel
theorem dX1_expandLine_39 : decode cX1_expandLine 39 = .ok (.bipush 69, 2) := by decide +kernel
theorem dX1_expandLine_41 : decode cX1_expandLine 41 = .ok (.if_icmp .ne 9, 3) := by decide +kernel
theorem dX1_expandLine_44 : decode cX1_expandLine 44 = .ok (.aload_n 0, 1) := by decide +kernel
theorem dX1_expandLine_45 : decode cX1_expandLine 45 = .ok (.iload_n 1, 1) := by decide +kernel
theorem dX1_expandLine_46 : decode cX1_expandLine 46 = .ok (.invokevirtual 98, 3) := by decide +kernel
theorem dX1_expandLine_49 : decode cX1_expandLine 49 = .ok (.ireturn, 1) := by decide +kernel
theorem dX1_expandLine_50 : decode cX1_expandLine 50 = .ok (.aload_n 0, 1) := by decide +kernel
theorem dX1_expandLine_51 : decode cX1_expandLine 51 = .ok (.iload_n 1, 1) := by decide +kernel
theorem dX1_expandLine_52 : decode cX1_expandLine 52 = .ok (.iload_n 2, 1) := by decide +kernel
theorem dX1_expandLine_53 : decode cX1_expandLine 53 = .ok (.invokevirtual 101, 3) := by decide +kernel
theorem dX1_expandLine_56 : decode cX1_expandLine 56 = .ok (.istore_n 3, 1) := by decide +kernel
theorem dX1_expandLine_57 : decode cX1_expandLine 57 = .ok (.iload_n 3, 1) := by decide +kernel
theorem dX1_expandLine_58 : decode cX1_expandLine 58 = .ok (.bipush 110, 2) := by decide +kernel
theorem dX1_expandLine_60 : decode cX1_expandLine 60 = .ok (.if_icmp .eq 11, 3) := by decide +kernel
theorem dX1_expandLine_63 : decode cX1_expandLine 63 = .ok (.aload_n 0, 1) := by decide +kernel
theorem dX1_expandLine_64 : decode cX1_expandLine 64 = .ok (.iload_n 3, 1) := by decide +kernel
theorem dX1_expandLine_65 : decode cX1_expandLine 65 = .ok (.iload_n 1, 1) := by decide +kernel
theorem dX1_expandLine_66 : decode cX1_expandLine 66 = .ok (.invokevirtual 65, 3) := by decide +kernel
theorem dX1_expandLine_69 : decode cX1_expandLine 69 = .ok (.iload_n 1, 1) := by decide +kernel
theorem dX1_expandLine_70 : decode cX1_expandLine 70 = .ok (.ireturn, 1) := by decide +kernel
theorem dX1_expandLine_71 : decode cX1_expandLine 71 = .ok (.aload_n 0, 1) := by decide +kernel
theorem dX1_expandLine_72 : decode cX1_expandLine 72 = .ok (.dup, 1) := by decide +kernel
theorem dX1_expandLine_73 : decode cX1_expandLine 73 = .ok (.getfield 56, 3) := by decide +kernel
theorem dX1_expandLine_76 : decode cX1_expandLine 76 = .ok (.iconst 1, 1) := by decide +kernel
theorem dX1_expandLine_77 : decode cX1_expandLine 77 = .ok (.iadd, 1) := by decide +kernel
theorem dX1_expandLine_78 : decode cX1_expandLine 78 = .ok (.putfield 56, 3) := by decide +kernel
theorem dX1_expandLine_81 : decode cX1_expandLine 81 = .ok (.iload_n 2, 1) := by decide +kernel
theorem dX1_expandLine_82 : decode cX1_expandLine 82 = .ok (.bipush 67, 2) := by decide +kernel
theorem dX1_expandLine_84 : decode cX1_expandLine 84 = .ok (.if_icmp .ne 9, 3) := by decide +kernel
theorem dX1_expandLine_87 : decode cX1_expandLine 87 = .ok (.aload_n 0, 1) := by decide +kernel
theorem dX1_expandLine_88 : decode cX1_expandLine 88 = .ok (.iload_n 1, 1) := by decide +kernel
theorem dX1_expandLine_89 : decode cX1_expandLine 89 = .ok (.invokevirtual 105, 3) := by decide +kernel
theorem dX1_expandLine_92 : decode cX1_expandLine 92 = .ok (.ireturn, 1) := by decide +kernel
theorem dX1_expandLine_93 : decode cX1_expandLine 93 = .ok (.iload_n 2, 1) := by decide +kernel
theorem dX1_expandLine_94 : decode cX1_expandLine 94 = .ok (.invokestatic 108, 3) := by decide +kernel
theorem dX1_expandLine_97 : decode cX1_expandLine 97 = .ok (.ifCond .eq 10, 3) := by decide +kernel
theorem dX1_expandLine_100 : decode cX1_expandLine 100 = .ok (.aload_n 0, 1) := by decide +kernel
theorem dX1_expandLine_101 : decode cX1_expandLine 101 = .ok (.iload_n 1, 1) := by decide +kernel
theorem dX1_expandLine_102 : decode cX1_expandLine 102 = .ok (.iload_n 2, 1) := by decide +kernel
theorem dX1_expandLine_103 : decode cX1_expandLine 103 = .ok (.invokevirtual 112, 3) := by decide +kernel
theorem dX1_expandLine_106 : decode cX1_expandLine 106 = .ok (.ireturn, 1) := by decide +kernel
theorem dX1_expandLine_107 : decode cX1_expandLine 107 = .ok (.aload_n 0, 1) := by decide +kernel
theorem dX1_expandLine_108 : decode cX1_expandLine 108 = .ok (.iload_n 1, 1) := by decide +kernel
theorem dX1_expandLine_109 : decode cX1_expandLine 109 = .ok (.iload_n 2, 1) := by decide +kernel
theorem dX1_expandLine_110 : decode cX1_expandLine 110 = .ok (.invokevirtual 115, 3) := by decide +kernel
theorem dX1_expandLine_113 : decode cX1_expandLine 113 = .ok (.iload_n 1, 1) := by decide +kernel
theorem dX1_expandLine_114 : decode cX1_expandLine 114 = .ok (.iconst 1, 1) := by decide +kernel
theorem dX1_expandLine_115 : decode cX1_expandLine 115 = .ok (.iadd, 1) := by decide +kernel
theorem dX1_expandLine_116 : decode cX1_expandLine 116 = .ok (.ireturn, 1) := by decide +kernel
theorem dX1_faultAt_0 : decode cX1_faultAt 0 = .ok (.aload_n 0, 1) := by decide +kernel
theorem dX1_faultAt_1 : decode cX1_faultAt 1 = .ok (.getfield 28, 3) := by decide +kernel
theorem dX1_faultAt_4 : decode cX1_faultAt 4 = .ok (.iload_n 1, 1) := by decide +kernel
theorem dX1_faultAt_5 : decode cX1_faultAt 5 = .ok (.invokevirtual 118, 3) := by decide +kernel
theorem dX1_faultAt_8 : decode cX1_faultAt 8 = .ok (.istore_n 3, 1) := by decide +kernel
theorem dX1_faultAt_9 : decode cX1_faultAt 9 = .ok (.iload_n 2, 1) := by decide +kernel
theorem dX1_faultAt_10 : decode cX1_faultAt 10 = .ok (.invokestatic 121, 3) := by decide +kernel
theorem dX1_faultAt_13 : decode cX1_faultAt 13 = .ok (.istore 4, 2) := by decide +kernel
theorem dX1_faultAt_15 : decode cX1_faultAt 15 = .ok (.aload_n 0, 1) := by decide +kernel
theorem dX1_faultAt_16 : decode cX1_faultAt 16 = .ok (.iload_n 3, 1) := by decide +kernel
theorem dX1_faultAt_17 : decode cX1_faultAt 17 = .ok (.invokevirtual 124, 3) := by decide +kernel
theorem dX1_faultAt_20 : decode cX1_faultAt 20 = .ok (.iload 4, 2) := by decide +kernel
theorem dX1_faultAt_22 : decode cX1_faultAt 22 = .ok (.if_icmp .gt 20, 3) := by decide +kernel
theorem dX1_faultAt_25 : decode cX1_faultAt 25 = .ok (.aload_n 0, 1) := by decide +kernel
theorem dX1_faultAt_26 : decode cX1_faultAt 26 = .ok (.aload_n 0, 1) := by decide +kernel
theorem dX1_faultAt_27 : decode cX1_faultAt 27 = .ok (.getfield 28, 3) := by decide +kernel
theorem dX1_faultAt_30 : decode cX1_faultAt 30 = .ok (.iload_n 1, 1) := by decide +kernel
theorem dX1_faultAt_31 : decode cX1_faultAt 31 = .ok (.invokevirtual 127, 3) := by decide +kernel
theorem dX1_faultAt_34 : decode cX1_faultAt 34 = .ok (.invokevirtual 124, 3) := by decide +kernel
theorem dX1_faultAt_37 : decode cX1_faultAt 37 = .ok (.iload 4, 2) := by decide +kernel
theorem dX1_faultAt_39 : decode cX1_faultAt 39 = .ok (.if_icmp .le 6, 3) := by decide +kernel
theorem dX1_faultAt_42 : decode cX1_faultAt 42 = .ok (.bipush 97, 2) := by decide +kernel
theorem dX1_faultAt_44 : decode cX1_faultAt 44 = .ok (.ireturn, 1) := by decide +kernel
theorem dX1_faultAt_45 : decode cX1_faultAt 45 = .ok (.iload_n 2, 1) := by decide +kernel
theorem dX1_faultAt_46 : decode cX1_faultAt 46 = .ok (.bipush 108, 2) := by decide +kernel
theorem dX1_faultAt_48 : decode cX1_faultAt 48 = .ok (.if_icmp .ne 27, 3) := by decide +kernel
theorem dX1_faultAt_51 : decode cX1_faultAt 51 = .ok (.aload_n 0, 1) := by decide +kernel
theorem dX1_faultAt_52 : decode cX1_faultAt 52 = .ok (.getfield 36, 3) := by decide +kernel
theorem dX1_faultAt_55 : decode cX1_faultAt 55 = .ok (.aload_n 0, 1) := by decide +kernel
theorem dX1_faultAt_56 : decode cX1_faultAt 56 = .ok (.iload_n 3, 1) := by decide +kernel
theorem dX1_faultAt_57 : decode cX1_faultAt 57 = .ok (.invokevirtual 130, 3) := by decide +kernel
theorem dX1_faultAt_60 : decode cX1_faultAt 60 = .ok (.aload_n 0, 1) := by decide +kernel
theorem dX1_faultAt_61 : decode cX1_faultAt 61 = .ok (.iload_n 3, 1) := by decide +kernel
theorem dX1_faultAt_62 : decode cX1_faultAt 62 = .ok (.invokevirtual 124, 3) := by decide +kernel
theorem dX1_faultAt_65 : decode cX1_faultAt 65 = .ok (.invokevirtual 133, 3) := by decide +kernel
theorem dX1_faultAt_68 : decode cX1_faultAt 68 = .ok (.iconst (-1), 1) := by decide +kernel
theorem dX1_faultAt_69 : decode cX1_faultAt 69 = .ok (.if_icmp .eq 6, 3) := by decide +kernel
theorem dX1_faultAt_72 : decode cX1_faultAt 72 = .ok (.bipush 100, 2) := by decide +kernel
theorem dX1_faultAt_74 : decode cX1_faultAt 74 = .ok (.ireturn, 1) := by decide +kernel
theorem dX1_faultAt_75 : decode cX1_faultAt 75 = .ok (.iload_n 2, 1) := by decide +kernel
theorem dX1_faultAt_76 : decode cX1_faultAt 76 = .ok (.bipush 67, 2) := by decide +kernel
theorem dX1_faultAt_78 : decode cX1_faultAt 78 = .ok (.if_icmp .eq 14, 3) := by decide +kernel
theorem dX1_faultAt_81 : decode cX1_faultAt 81 = .ok (.iload_n 2, 1) := by decide +kernel
theorem dX1_faultAt_82 : decode cX1_faultAt 82 = .ok (.invokestatic 108, 3) := by decide +kernel
theorem dX1_faultAt_85 : decode cX1_faultAt 85 = .ok (.ifCond .ne 7, 3) := by decide +kernel
theorem dX1_faultAt_88 : decode cX1_faultAt 88 = .ok (.iconst 1, 1) := by decide +kernel
theorem dX1_faultAt_89 : decode cX1_faultAt 89 = .ok (.goto 4, 3) := by decide +kernel
theorem dX1_faultAt_92 : decode cX1_faultAt 92 = .ok (.iconst 0, 1) := by decide +kernel
theorem dX1_faultAt_93 : decode cX1_faultAt 93 = .ok (.istore 5, 2) := by decide +kernel
theorem dX1_faultAt_95 : decode cX1_faultAt 95 = .ok (.aload_n 0, 1) := by decide +kernel
theorem dX1_faultAt_96 : decode cX1_faultAt 96 = .ok (.getfield 56, 3) := by decide +kernel
theorem dX1_faultAt_99 : decode cX1_faultAt 99 = .ok (.sipush 1000, 3) := by decide +kernel
theorem dX1_faultAt_102 : decode cX1_faultAt 102 = .ok (.if_icmp .ge 18, 3) := by decide +kernel
theorem dX1_faultAt_105 : decode cX1_faultAt 105 = .ok (.iload 5, 2) := by decide +kernel
theorem dX1_faultAt_107 : decode cX1_faultAt 107 = .ok (.ifCond .eq 18, 3) := by decide +kernel
theorem dX1_faultAt_110 : decode cX1_faultAt 110 = .ok (.aload_n 0, 1) := by decide +kernel
theorem dX1_faultAt_111 : decode cX1_faultAt 111 = .ok (.getfield 32, 3) := by decide +kernel
theorem dX1_faultAt_114 : decode cX1_faultAt 114 = .ok (.invokevirtual 136, 3) := by decide +kernel
theorem dX1_faultAt_117 : decode cX1_faultAt 117 = .ok (.ifCond .eq 8, 3) := by decide +kernel
theorem dX1_faultAt_120 : decode cX1_faultAt 120 = .ok (.bipush 102, 2) := by decide +kernel
theorem dX1_faultAt_122 : decode cX1_faultAt 122 = .ok (.goto 5, 3) := by decide +kernel
theorem dX1_faultAt_125 : decode cX1_faultAt 125 = .ok (.bipush 110, 2) := by decide +kernel
theorem dX1_faultAt_127 : decode cX1_faultAt 127 = .ok (.ireturn, 1) := by decide +kernel
theorem dX1_addItem_0 : decode cX1_addItem 0 = .ok (.aload_n 0, 1) := by decide +kernel
theorem dX1_addItem_1 : decode cX1_addItem 1 = .ok (.getfield 28, 3) := by decide +kernel
theorem dX1_addItem_4 : decode cX1_addItem 4 = .ok (.iload_n 1, 1) := by decide +kernel
theorem dX1_addItem_5 : decode cX1_addItem 5 = .ok (.invokevirtual 118, 3) := by decide +kernel
theorem dX1_addItem_8 : decode cX1_addItem 8 = .ok (.istore_n 3, 1) := by decide +kernel
theorem dX1_addItem_9 : decode cX1_addItem 9 = .ok (.aload_n 0, 1) := by decide +kernel
theorem dX1_addItem_10 : decode cX1_addItem 10 = .ok (.iload_n 3, 1) := by decide +kernel
theorem dX1_addItem_11 : decode cX1_addItem 11 = .ok (.invokevirtual 124, 3) := by decide +kernel
theorem dX1_addItem_14 : decode cX1_addItem 14 = .ok (.istore 4, 2) := by decide +kernel
theorem dX1_addItem_16 : decode cX1_addItem 16 = .ok (.aload_n 0, 1) := by decide +kernel
theorem dX1_addItem_17 : decode cX1_addItem 17 = .ok (.getfield 32, 3) := by decide +kernel
theorem dX1_addItem_20 : decode cX1_addItem 20 = .ok (.iload_n 1, 1) := by decide +kernel
theorem dX1_addItem_21 : decode cX1_addItem 21 = .ok (.iload_n 2, 1) := by decide +kernel
theorem dX1_addItem_22 : decode cX1_addItem 22 = .ok (.aload_n 0, 1) := by decide +kernel
theorem dX1_addItem_23 : decode cX1_addItem 23 = .ok (.getfield 53, 3) := by decide +kernel
theorem dX1_addItem_26 : decode cX1_addItem 26 = .ok (.iload_n 2, 1) := by decide +kernel
theorem dX1_addItem_27 : decode cX1_addItem 27 = .ok (.aload_n 0, 1) := by decide +kernel
theorem dX1_addItem_28 : decode cX1_addItem 28 = .ok (.getfield 28, 3) := by decide +kernel
theorem dX1_addItem_31 : decode cX1_addItem 31 = .ok (.iload_n 1, 1) := by decide +kernel
theorem dX1_addItem_32 : decode cX1_addItem 32 = .ok (.invokevirtual 140, 3) := by decide +kernel
theorem dX1_addItem_35 : decode cX1_addItem 35 = .ok (.iload 4, 2) := by decide +kernel
theorem dX1_addItem_37 : decode cX1_addItem 37 = .ok (.invokestatic 143, 3) := by decide +kernel
theorem dX1_addItem_40 : decode cX1_addItem 40 = .ok (.invokevirtual 147, 3) := by decide +kernel
theorem dX1_addItem_43 : decode cX1_addItem 43 = .ok (.istore 5, 2) := by decide +kernel
theorem dX1_addItem_45 : decode cX1_addItem 45 = .ok (.iload_n 2, 1) := by decide +kernel
theorem dX1_addItem_46 : decode cX1_addItem 46 = .ok (.bipush 108, 2) := by decide +kernel
theorem dX1_addItem_48 : decode cX1_addItem 48 = .ok (.if_icmp .ne 19, 3) := by decide +kernel
theorem dX1_addItem_51 : decode cX1_addItem 51 = .ok (.aload_n 0, 1) := by decide +kernel
theorem dX1_addItem_52 : decode cX1_addItem 52 = .ok (.getfield 36, 3) := by decide +kernel
theorem dX1_addItem_55 : decode cX1_addItem 55 = .ok (.aload_n 0, 1) := by decide +kernel
theorem dX1_addItem_56 : decode cX1_addItem 56 = .ok (.iload_n 3, 1) := by decide +kernel
theorem dX1_addItem_57 : decode cX1_addItem 57 = .ok (.invokevirtual 130, 3) := by decide +kernel
theorem dX1_addItem_60 : decode cX1_addItem 60 = .ok (.iload 4, 2) := by decide +kernel
theorem dX1_addItem_62 : decode cX1_addItem 62 = .ok (.iload 5, 2) := by decide +kernel
theorem dX1_addItem_64 : decode cX1_addItem 64 = .ok (.invokevirtual 151, 3) := by decide +kernel
theorem dX1_addItem_67 : decode cX1_addItem 67 = .ok (.aload_n 0, 1) := by decide +kernel
theorem dX1_addItem_68 : decode cX1_addItem 68 = .ok (.getfield 36, 3) := by decide +kernel
theorem dX1_addItem_71 : decode cX1_addItem 71 = .ok (.iload 5, 2) := by decide +kernel
theorem dX1_addItem_73 : decode cX1_addItem 73 = .ok (.iload_n 2, 1) := by decide +kernel
theorem dX1_addItem_74 : decode cX1_addItem 74 = .ok (.invokestatic 155, 3) := by decide +kernel
theorem dX1_addItem_77 : decode cX1_addItem 77 = .ok (.ifCond .eq 11, 3) := by decide +kernel
theorem dX1_addItem_80 : decode cX1_addItem 80 = .ok (.aload_n 0, 1) := by decide +kernel
theorem dX1_addItem_81 : decode cX1_addItem 81 = .ok (.iload_n 3, 1) := by decide +kernel
theorem dX1_addItem_82 : decode cX1_addItem 82 = .ok (.invokevirtual 130, 3) := by decide +kernel
theorem dX1_addItem_85 : decode cX1_addItem 85 = .ok (.goto 4, 3) := by decide +kernel
theorem dX1_addItem_88 : decode cX1_addItem 88 = .ok (.iconst (-1), 1) := by decide +kernel
theorem dX1_addItem_89 : decode cX1_addItem 89 = .ok (.invokevirtual 158, 3) := by decide +kernel
theorem dX1_addItem_92 : decode cX1_addItem 92 = .ok (.return_, 1) := by decide +kernel
theorem dX1_valueOfItem_0 : decode cX1_valueOfItem 0 = .ok (.iload_n 0, 1) := by decide +kernel
theorem dX1_valueOfItem_1 : decode cX1_valueOfItem 1 = .ok (.lookupswitch 36 #[(103, 34), (111, 27)], 27) := by decide +kernel
theorem dX1_valueOfItem_28 : decode cX1_valueOfItem 28 = .ok (.bipush 100, 2) := by decide +kernel
theorem dX1_valueOfItem_30 : decode cX1_valueOfItem 30 = .ok (.iload_n 1, 1) := by decide +kernel
theorem dX1_valueOfItem_31 : decode cX1_valueOfItem 31 = .ok (.imul, 1) := by decide +kernel
theorem dX1_valueOfItem_32 : decode cX1_valueOfItem 32 = .ok (.iload_n 2, 1) := by decide +kernel
theorem dX1_valueOfItem_33 : decode cX1_valueOfItem 33 = .ok (.iadd, 1) := by decide +kernel
theorem dX1_valueOfItem_34 : decode cX1_valueOfItem 34 = .ok (.ireturn, 1) := by decide +kernel
theorem dX1_valueOfItem_35 : decode cX1_valueOfItem 35 = .ok (.iload_n 1, 1) := by decide +kernel
theorem dX1_valueOfItem_36 : decode cX1_valueOfItem 36 = .ok (.ireturn, 1) := by decide +kernel
theorem dX1_valueOfItem_37 : decode cX1_valueOfItem 37 = .ok (.iload_n 2, 1) := by decide +kernel
theorem dX1_valueOfItem_38 : decode cX1_valueOfItem 38 = .ok (.ireturn, 1) := by decide +kernel
theorem dX1_beginGroup_0 : decode cX1_beginGroup 0 = .ok (.aload_n 0, 1) := by decide +kernel
theorem dX1_beginGroup_1 : decode cX1_beginGroup 1 = .ok (.getfield 28, 3) := by decide +kernel
theorem dX1_beginGroup_4 : decode cX1_beginGroup 4 = .ok (.iload_n 1, 1) := by decide +kernel
theorem dX1_beginGroup_5 : decode cX1_beginGroup 5 = .ok (.aload_n 0, 1) := by decide +kernel
theorem dX1_beginGroup_6 : decode cX1_beginGroup 6 = .ok (.iconst (-1), 1) := by decide +kernel
theorem dX1_beginGroup_7 : decode cX1_beginGroup 7 = .ok (.invokevirtual 161, 3) := by decide +kernel
theorem dX1_beginGroup_10 : decode cX1_beginGroup 10 = .ok (.aload_n 0, 1) := by decide +kernel
theorem dX1_beginGroup_11 : decode cX1_beginGroup 11 = .ok (.bipush (-2), 2) := by decide +kernel
theorem dX1_beginGroup_13 : decode cX1_beginGroup 13 = .ok (.invokevirtual 161, 3) := by decide +kernel
theorem dX1_beginGroup_16 : decode cX1_beginGroup 16 = .ok (.invokevirtual 164, 3) := by decide +kernel
theorem dX1_beginGroup_19 : decode cX1_beginGroup 19 = .ok (.istore_n 3, 1) := by decide +kernel
theorem dX1_beginGroup_20 : decode cX1_beginGroup 20 = .ok (.iload_n 3, 1) := by decide +kernel
theorem dX1_beginGroup_21 : decode cX1_beginGroup 21 = .ok (.ifCond .ne 14, 3) := by decide +kernel
theorem dX1_beginGroup_24 : decode cX1_beginGroup 24 = .ok (.aload_n 0, 1) := by decide +kernel
theorem dX1_beginGroup_25 : decode cX1_beginGroup 25 = .ok (.getfield 28, 3) := by decide +kernel
theorem dX1_beginGroup_28 : decode cX1_beginGroup 28 = .ok (.iload_n 1, 1) := by decide +kernel
theorem dX1_beginGroup_29 : decode cX1_beginGroup 29 = .ok (.invokevirtual 92, 3) := by decide +kernel
theorem dX1_beginGroup_32 : decode cX1_beginGroup 32 = .ok (.iconst 1, 1) := by decide +kernel
theorem dX1_beginGroup_33 : decode cX1_beginGroup 33 = .ok (.iadd, 1) := by decide +kernel
theorem dX1_beginGroup_34 : decode cX1_beginGroup 34 = .ok (.ireturn, 1) := by decide +kernel
theorem dX1_beginGroup_35 : decode cX1_beginGroup 35 = .ok (.iload_n 2, 1) := by decide +kernel
theorem dX1_beginGroup_36 : decode cX1_beginGroup 36 = .ok (.bipush 87, 2) := by decide +kernel
theorem dX1_beginGroup_38 : decode cX1_beginGroup 38 = .ok (.if_icmp .eq 26, 3) := by decide +kernel
theorem dX1_beginGroup_41 : decode cX1_beginGroup 41 = .ok (.aload_n 0, 1) := by decide +kernel
theorem dX1_beginGroup_42 : decode cX1_beginGroup 42 = .ok (.getfield 36, 3) := by decide +kernel
theorem dX1_beginGroup_45 : decode cX1_beginGroup 45 = .ok (.aload_n 0, 1) := by decide +kernel
theorem dX1_beginGroup_46 : decode cX1_beginGroup 46 = .ok (.getfield 36, 3) := by decide +kernel
theorem dX1_beginGroup_49 : decode cX1_beginGroup 49 = .ok (.invokevirtual 167, 3) := by decide +kernel
theorem dX1_beginGroup_52 : decode cX1_beginGroup 52 = .ok (.invokevirtual 170, 3) := by decide +kernel
theorem dX1_beginGroup_55 : decode cX1_beginGroup 55 = .ok (.aload_n 0, 1) := by decide +kernel
theorem dX1_beginGroup_56 : decode cX1_beginGroup 56 = .ok (.getfield 9, 3) := by decide +kernel
theorem dX1_beginGroup_59 : decode cX1_beginGroup 59 = .ok (.iload_n 1, 1) := by decide +kernel
theorem dX1_beginGroup_60 : decode cX1_beginGroup 60 = .ok (.iload_n 3, 1) := by decide +kernel
theorem dX1_beginGroup_61 : decode cX1_beginGroup 61 = .ok (.invokestatic 174, 3) := by decide +kernel
theorem dX1_beginGroup_64 : decode cX1_beginGroup 64 = .ok (.iload_n 1, 1) := by decide +kernel
theorem dX1_beginGroup_65 : decode cX1_beginGroup 65 = .ok (.iconst 1, 1) := by decide +kernel
theorem dX1_beginGroup_66 : decode cX1_beginGroup 66 = .ok (.iadd, 1) := by decide +kernel
theorem dX1_beginGroup_67 : decode cX1_beginGroup 67 = .ok (.ireturn, 1) := by decide +kernel
theorem dX1_endRound_0 : decode cX1_endRound 0 = .ok (.aload_n 0, 1) := by decide +kernel
theorem dX1_endRound_1 : decode cX1_endRound 1 = .ok (.getfield 28, 3) := by decide +kernel
theorem dX1_endRound_4 : decode cX1_endRound 4 = .ok (.iload_n 1, 1) := by decide +kernel
theorem dX1_endRound_5 : decode cX1_endRound 5 = .ok (.invokevirtual 92, 3) := by decide +kernel
theorem dX1_endRound_8 : decode cX1_endRound 8 = .ok (.istore_n 2, 1) := by decide +kernel
theorem dX1_endRound_9 : decode cX1_endRound 9 = .ok (.aload_n 0, 1) := by decide +kernel
theorem dX1_endRound_10 : decode cX1_endRound 10 = .ok (.getfield 28, 3) := by decide +kernel
theorem dX1_endRound_13 : decode cX1_endRound 13 = .ok (.iload_n 2, 1) := by decide +kernel
theorem dX1_endRound_14 : decode cX1_endRound 14 = .ok (.invokevirtual 89, 3) := by decide +kernel
theorem dX1_endRound_17 : decode cX1_endRound 17 = .ok (.bipush 87, 2) := by decide +kernel
theorem dX1_endRound_19 : decode cX1_endRound 19 = .ok (.if_icmp .ne 7, 3) := by decide +kernel
theorem dX1_endRound_22 : decode cX1_endRound 22 = .ok (.iload_n 1, 1) := by decide +kernel
theorem dX1_endRound_23 : decode cX1_endRound 23 = .ok (.iconst 1, 1) := by decide +kernel
theorem dX1_endRound_24 : decode cX1_endRound 24 = .ok (.iadd, 1) := by decide +kernel
theorem dX1_endRound_25 : decode cX1_endRound 25 = .ok (.ireturn, 1) := by decide +kernel
theorem dX1_endRound_26 : decode cX1_endRound 26 = .ok (.aload_n 0, 1) := by decide +kernel
theorem dX1_endRound_27 : decode cX1_endRound 27 = .ok (.getfield 36, 3) := by decide +kernel
theorem dX1_endRound_30 : decode cX1_endRound 30 = .ok (.invokevirtual 80, 3) := by decide +kernel
theorem dX1_endRound_33 : decode cX1_endRound 33 = .ok (.aload_n 0, 1) := by decide +kernel
theorem dX1_endRound_34 : decode cX1_endRound 34 = .ok (.getfield 9, 3) := by decide +kernel
theorem dX1_endRound_37 : decode cX1_endRound 37 = .ok (.iload_n 2, 1) := by decide +kernel
theorem dX1_endRound_38 : decode cX1_endRound 38 = .ok (.invokestatic 178, 3) := by decide +kernel
theorem dX1_endRound_41 : decode cX1_endRound 41 = .ok (.iconst 1, 1) := by decide +kernel
theorem dX1_endRound_42 : decode cX1_endRound 42 = .ok (.isub, 1) := by decide +kernel
theorem dX1_endRound_43 : decode cX1_endRound 43 = .ok (.istore_n 3, 1) := by decide +kernel
theorem dX1_endRound_44 : decode cX1_endRound 44 = .ok (.aload_n 0, 1) := by decide +kernel
theorem dX1_endRound_45 : decode cX1_endRound 45 = .ok (.getfield 9, 3) := by decide +kernel
theorem dX1_endRound_48 : decode cX1_endRound 48 = .ok (.iload_n 2, 1) := by decide +kernel
theorem dX1_endRound_49 : decode cX1_endRound 49 = .ok (.iload_n 3, 1) := by decide +kernel
theorem dX1_endRound_50 : decode cX1_endRound 50 = .ok (.invokestatic 174, 3) := by decide +kernel
theorem dX1_endRound_53 : decode cX1_endRound 53 = .ok (.iload_n 3, 1) := by decide +kernel
theorem dX1_endRound_54 : decode cX1_endRound 54 = .ok (.ifCond .gt 7, 3) := by decide +kernel
theorem dX1_endRound_57 : decode cX1_endRound 57 = .ok (.iload_n 1, 1) := by decide +kernel
theorem dX1_endRound_58 : decode cX1_endRound 58 = .ok (.iconst 1, 1) := by decide +kernel
theorem dX1_endRound_59 : decode cX1_endRound 59 = .ok (.iadd, 1) := by decide +kernel
theorem dX1_endRound_60 : decode cX1_endRound 60 = .ok (.ireturn, 1) := by decide +kernel
theorem dX1_endRound_61 : decode cX1_endRound 61 = .ok (.aload_n 0, 1) := by decide +kernel
theorem dX1_endRound_62 : decode cX1_endRound 62 = .ok (.getfield 36, 3) := by decide +kernel
theorem dX1_endRound_65 : decode cX1_endRound 65 = .ok (.aload_n 0, 1) := by decide +kernel
theorem dX1_endRound_66 : decode cX1_endRound 66 = .ok (.getfield 36, 3) := by decide +kernel
theorem dX1_endRound_69 : decode cX1_endRound 69 = .ok (.invokevirtual 167, 3) := by decide +kernel
theorem dX1_endRound_72 : decode cX1_endRound 72 = .ok (.invokevirtual 170, 3) := by decide +kernel
theorem dX1_endRound_75 : decode cX1_endRound 75 = .ok (.iload_n 2, 1) := by decide +kernel
theorem dX1_endRound_76 : decode cX1_endRound 76 = .ok (.iconst 1, 1) := by decide +kernel
theorem dX1_endRound_77 : decode cX1_endRound 77 = .ok (.iadd, 1) := by decide +kernel
theorem dX1_endRound_78 : decode cX1_endRound 78 = .ok (.ireturn, 1) := by decide +kernel
theorem dX1_enterMacro_0 : decode cX1_enterMacro 0 = .ok (.aload_n 0, 1) := by decide +kernel
theorem dX1_enterMacro_1 : decode cX1_enterMacro 1 = .ok (.getfield 53, 3) := by decide +kernel
theorem dX1_enterMacro_4 : decode cX1_enterMacro 4 = .ok (.bipush 8, 2) := by decide +kernel
theorem dX1_enterMacro_6 : decode cX1_enterMacro 6 = .ok (.if_icmp .lt 7, 3) := by decide +kernel
theorem dX1_enterMacro_9 : decode cX1_enterMacro 9 = .ok (.iload_n 1, 1) := by decide +kernel
theorem dX1_enterMacro_10 : decode cX1_enterMacro 10 = .ok (.iconst 1, 1) := by decide +kernel
theorem dX1_enterMacro_11 : decode cX1_enterMacro 11 = .ok (.iadd, 1) := by decide +kernel
theorem dX1_enterMacro_12 : decode cX1_enterMacro 12 = .ok (.ireturn, 1) := by decide +kernel
theorem dX1_enterMacro_13 : decode cX1_enterMacro 13 = .ok (.aload_n 0, 1) := by decide +kernel
theorem dX1_enterMacro_14 : decode cX1_enterMacro 14 = .ok (.getfield 28, 3) := by decide +kernel
theorem dX1_enterMacro_17 : decode cX1_enterMacro 17 = .ok (.iload_n 1, 1) := by decide +kernel
theorem dX1_enterMacro_18 : decode cX1_enterMacro 18 = .ok (.invokevirtual 118, 3) := by decide +kernel
theorem dX1_enterMacro_21 : decode cX1_enterMacro 21 = .ok (.istore_n 2, 1) := by decide +kernel
theorem dX1_enterMacro_22 : decode cX1_enterMacro 22 = .ok (.aload_n 0, 1) := by decide +kernel
theorem dX1_enterMacro_23 : decode cX1_enterMacro 23 = .ok (.getfield 28, 3) := by decide +kernel
theorem dX1_enterMacro_26 : decode cX1_enterMacro 26 = .ok (.iload_n 1, 1) := by decide +kernel
theorem dX1_enterMacro_27 : decode cX1_enterMacro 27 = .ok (.invokevirtual 127, 3) := by decide +kernel
theorem dX1_enterMacro_30 : decode cX1_enterMacro 30 = .ok (.istore_n 3, 1) := by decide +kernel
theorem dX1_enterMacro_31 : decode cX1_enterMacro 31 = .ok (.aload_n 0, 1) := by decide +kernel
theorem dX1_enterMacro_32 : decode cX1_enterMacro 32 = .ok (.iconst (-1), 1) := by decide +kernel
theorem dX1_enterMacro_33 : decode cX1_enterMacro 33 = .ok (.aload_n 0, 1) := by decide +kernel
theorem dX1_enterMacro_34 : decode cX1_enterMacro 34 = .ok (.iload_n 2, 1) := by decide +kernel
theorem dX1_enterMacro_35 : decode cX1_enterMacro 35 = .ok (.invokevirtual 124, 3) := by decide +kernel
theorem dX1_enterMacro_38 : decode cX1_enterMacro 38 = .ok (.aload_n 0, 1) := by decide +kernel
theorem dX1_enterMacro_39 : decode cX1_enterMacro 39 = .ok (.iload_n 2, 1) := by decide +kernel
theorem dX1_enterMacro_40 : decode cX1_enterMacro 40 = .ok (.invokevirtual 130, 3) := by decide +kernel
theorem dX1_enterMacro_43 : decode cX1_enterMacro 43 = .ok (.invokevirtual 182, 3) := by decide +kernel
theorem dX1_enterMacro_46 : decode cX1_enterMacro 46 = .ok (.aload_n 0, 1) := by decide +kernel
theorem dX1_enterMacro_47 : decode cX1_enterMacro 47 = .ok (.bipush (-2), 2) := by decide +kernel
theorem dX1_enterMacro_49 : decode cX1_enterMacro 49 = .ok (.aload_n 0, 1) := by decide +kernel
theorem dX1_enterMacro_50 : decode cX1_enterMacro 50 = .ok (.iload_n 3, 1) := by decide +kernel
theorem dX1_enterMacro_51 : decode cX1_enterMacro 51 = .ok (.invokevirtual 124, 3) := by decide +kernel
theorem dX1_enterMacro_54 : decode cX1_enterMacro 54 = .ok (.aload_n 0, 1) := by decide +kernel
theorem dX1_enterMacro_55 : decode cX1_enterMacro 55 = .ok (.iload_n 3, 1) := by decide +kernel
theorem dX1_enterMacro_56 : decode cX1_enterMacro 56 = .ok (.invokevirtual 130, 3) := by decide +kernel
theorem dX1_enterMacro_59 : decode cX1_enterMacro 59 = .ok (.invokevirtual 182, 3) := by decide +kernel
theorem dX1_enterMacro_62 : decode cX1_enterMacro 62 = .ok (.aload_n 0, 1) := by decide +kernel
theorem dX1_enterMacro_63 : decode cX1_enterMacro 63 = .ok (.getfield 36, 3) := by decide +kernel
theorem dX1_enterMacro_66 : decode cX1_enterMacro 66 = .ok (.iconst 0, 1) := by decide +kernel
theorem dX1_enterMacro_67 : decode cX1_enterMacro 67 = .ok (.invokevirtual 170, 3) := by decide +kernel
theorem dX1_enterMacro_70 : decode cX1_enterMacro 70 = .ok (.aload_n 0, 1) := by decide +kernel
theorem dX1_enterMacro_71 : decode cX1_enterMacro 71 = .ok (.dup, 1) := by decide +kernel
theorem dX1_enterMacro_72 : decode cX1_enterMacro 72 = .ok (.getfield 53, 3) := by decide +kernel
theorem dX1_enterMacro_75 : decode cX1_enterMacro 75 = .ok (.iconst 1, 1) := by decide +kernel
theorem dX1_enterMacro_76 : decode cX1_enterMacro 76 = .ok (.iadd, 1) := by decide +kernel
theorem dX1_enterMacro_77 : decode cX1_enterMacro 77 = .ok (.putfield 53, 3) := by decide +kernel
theorem dX1_enterMacro_80 : decode cX1_enterMacro 80 = .ok (.aload_n 0, 1) := by decide +kernel
theorem dX1_enterMacro_81 : decode cX1_enterMacro 81 = .ok (.getfield 15, 3) := by decide +kernel
theorem dX1_enterMacro_84 : decode cX1_enterMacro 84 = .ok (.aload_n 0, 1) := by decide +kernel
theorem dX1_enterMacro_85 : decode cX1_enterMacro 85 = .ok (.getfield 53, 3) := by decide +kernel
theorem dX1_enterMacro_88 : decode cX1_enterMacro 88 = .ok (.iload_n 1, 1) := by decide +kernel
theorem dX1_enterMacro_89 : decode cX1_enterMacro 89 = .ok (.invokestatic 174, 3) := by decide +kernel
theorem dX1_enterMacro_92 : decode cX1_enterMacro 92 = .ok (.aload_n 0, 1) := by decide +kernel
theorem dX1_enterMacro_93 : decode cX1_enterMacro 93 = .ok (.getfield 28, 3) := by decide +kernel
theorem dX1_enterMacro_96 : decode cX1_enterMacro 96 = .ok (.aload_n 0, 1) := by decide +kernel
theorem dX1_enterMacro_97 : decode cX1_enterMacro 97 = .ok (.getfield 28, 3) := by decide +kernel
theorem dX1_enterMacro_100 : decode cX1_enterMacro 100 = .ok (.iload_n 1, 1) := by decide +kernel
theorem dX1_enterMacro_101 : decode cX1_enterMacro 101 = .ok (.invokevirtual 140, 3) := by decide +kernel
theorem dX1_enterMacro_104 : decode cX1_enterMacro 104 = .ok (.invokevirtual 185, 3) := by decide +kernel
theorem dX1_enterMacro_107 : decode cX1_enterMacro 107 = .ok (.iconst 1, 1) := by decide +kernel
theorem dX1_enterMacro_108 : decode cX1_enterMacro 108 = .ok (.iadd, 1) := by decide +kernel
theorem dX1_enterMacro_109 : decode cX1_enterMacro 109 = .ok (.ireturn, 1) := by decide +kernel
theorem dX1_leaveMacro_0 : decode cX1_leaveMacro 0 = .ok (.aload_n 0, 1) := by decide +kernel
theorem dX1_leaveMacro_1 : decode cX1_leaveMacro 1 = .ok (.getfield 53, 3) := by decide +kernel
theorem dX1_leaveMacro_4 : decode cX1_leaveMacro 4 = .ok (.ifCond .gt 7, 3) := by decide +kernel
theorem dX1_leaveMacro_7 : decode cX1_leaveMacro 7 = .ok (.iload_n 1, 1) := by decide +kernel
theorem dX1_leaveMacro_8 : decode cX1_leaveMacro 8 = .ok (.iconst 1, 1) := by decide +kernel
theorem dX1_leaveMacro_9 : decode cX1_leaveMacro 9 = .ok (.iadd, 1) := by decide +kernel
theorem dX1_leaveMacro_10 : decode cX1_leaveMacro 10 = .ok (.ireturn, 1) := by decide +kernel
theorem dX1_leaveMacro_11 : decode cX1_leaveMacro 11 = .ok (.aload_n 0, 1) := by decide +kernel
theorem dX1_leaveMacro_12 : decode cX1_leaveMacro 12 = .ok (.getfield 36, 3) := by decide +kernel
theorem dX1_leaveMacro_15 : decode cX1_leaveMacro 15 = .ok (.invokevirtual 80, 3) := by decide +kernel
theorem dX1_leaveMacro_18 : decode cX1_leaveMacro 18 = .ok (.aload_n 0, 1) := by decide +kernel
theorem dX1_leaveMacro_19 : decode cX1_leaveMacro 19 = .ok (.getfield 15, 3) := by decide +kernel
theorem dX1_leaveMacro_22 : decode cX1_leaveMacro 22 = .ok (.aload_n 0, 1) := by decide +kernel
theorem dX1_leaveMacro_23 : decode cX1_leaveMacro 23 = .ok (.getfield 53, 3) := by decide +kernel
theorem dX1_leaveMacro_26 : decode cX1_leaveMacro 26 = .ok (.invokestatic 178, 3) := by decide +kernel
theorem dX1_leaveMacro_29 : decode cX1_leaveMacro 29 = .ok (.istore_n 2, 1) := by decide +kernel
theorem dX1_leaveMacro_30 : decode cX1_leaveMacro 30 = .ok (.aload_n 0, 1) := by decide +kernel
theorem dX1_leaveMacro_31 : decode cX1_leaveMacro 31 = .ok (.dup, 1) := by decide +kernel
theorem dX1_leaveMacro_32 : decode cX1_leaveMacro 32 = .ok (.getfield 53, 3) := by decide +kernel
theorem dX1_leaveMacro_35 : decode cX1_leaveMacro 35 = .ok (.iconst 1, 1) := by decide +kernel
theorem dX1_leaveMacro_36 : decode cX1_leaveMacro 36 = .ok (.isub, 1) := by decide +kernel
theorem dX1_leaveMacro_37 : decode cX1_leaveMacro 37 = .ok (.putfield 53, 3) := by decide +kernel
theorem dX1_leaveMacro_40 : decode cX1_leaveMacro 40 = .ok (.iload_n 2, 1) := by decide +kernel
theorem dX1_leaveMacro_41 : decode cX1_leaveMacro 41 = .ok (.iconst 1, 1) := by decide +kernel
theorem dX1_leaveMacro_42 : decode cX1_leaveMacro 42 = .ok (.iadd, 1) := by decide +kernel
theorem dX1_leaveMacro_43 : decode cX1_leaveMacro 43 = .ok (.ireturn, 1) := by decide +kernel
theorem dX1_pass_0 : decode cX1_pass 0 = .ok (.iload_n 1, 1) := by decide +kernel
theorem dX1_pass_1 : decode cX1_pass 1 = .ok (.aload_n 0, 1) := by decide +kernel
theorem dX1_pass_2 : decode cX1_pass 2 = .ok (.getfield 53, 3) := by decide +kernel
theorem dX1_pass_5 : decode cX1_pass 5 = .ok (.iconst 1, 1) := by decide +kernel
theorem dX1_pass_6 : decode cX1_pass 6 = .ok (.iadd, 1) := by decide +kernel
theorem dX1_pass_7 : decode cX1_pass 7 = .ok (.invokestatic 188, 3) := by decide +kernel
theorem dX1_pass_10 : decode cX1_pass 10 = .ok (.istore 4, 2) := by decide +kernel
theorem dX1_pass_12 : decode cX1_pass 12 = .ok (.aload_n 0, 1) := by decide +kernel
theorem dX1_pass_13 : decode cX1_pass 13 = .ok (.getfield 18, 3) := by decide +kernel
theorem dX1_pass_16 : decode cX1_pass 16 = .ok (.iload 4, 2) := by decide +kernel
theorem dX1_pass_18 : decode cX1_pass 18 = .ok (.iload_n 2, 1) := by decide +kernel
theorem dX1_pass_19 : decode cX1_pass 19 = .ok (.invokestatic 174, 3) := by decide +kernel
theorem dX1_pass_22 : decode cX1_pass 22 = .ok (.aload_n 0, 1) := by decide +kernel
theorem dX1_pass_23 : decode cX1_pass 23 = .ok (.getfield 21, 3) := by decide +kernel
theorem dX1_pass_26 : decode cX1_pass 26 = .ok (.iload 4, 2) := by decide +kernel
theorem dX1_pass_28 : decode cX1_pass 28 = .ok (.iload_n 3, 1) := by decide +kernel
theorem dX1_pass_29 : decode cX1_pass 29 = .ok (.invokestatic 174, 3) := by decide +kernel
theorem dX1_pass_32 : decode cX1_pass 32 = .ok (.return_, 1) := by decide +kernel
theorem dX1_placeOf_0 : decode cX1_placeOf 0 = .ok (.iconst 2, 1) := by decide +kernel
theorem dX1_placeOf_1 : decode cX1_placeOf 1 = .ok (.iload_n 1, 1) := by decide +kernel
theorem dX1_placeOf_2 : decode cX1_placeOf 2 = .ok (.imul, 1) := by decide +kernel
theorem dX1_placeOf_3 : decode cX1_placeOf 3 = .ok (.iload_n 0, 1) := by decide +kernel
theorem dX1_placeOf_4 : decode cX1_placeOf 4 = .ok (.iconst (-1), 1) := by decide +kernel
theorem dX1_placeOf_5 : decode cX1_placeOf 5 = .ok (.if_icmp .ne 7, 3) := by decide +kernel
theorem dX1_placeOf_8 : decode cX1_placeOf 8 = .ok (.iconst 0, 1) := by decide +kernel
theorem dX1_placeOf_9 : decode cX1_placeOf 9 = .ok (.goto 4, 3) := by decide +kernel
theorem dX1_placeOf_12 : decode cX1_placeOf 12 = .ok (.iconst 1, 1) := by decide +kernel
theorem dX1_placeOf_13 : decode cX1_placeOf 13 = .ok (.iadd, 1) := by decide +kernel
theorem dX1_placeOf_14 : decode cX1_placeOf 14 = .ok (.ireturn, 1) := by decide +kernel
theorem dX1_argument_0 : decode cX1_argument 0 = .ok (.aload_n 0, 1) := by decide +kernel
theorem dX1_argument_1 : decode cX1_argument 1 = .ok (.getfield 18, 3) := by decide +kernel
theorem dX1_argument_4 : decode cX1_argument 4 = .ok (.iload_n 1, 1) := by decide +kernel
theorem dX1_argument_5 : decode cX1_argument 5 = .ok (.aload_n 0, 1) := by decide +kernel
theorem dX1_argument_6 : decode cX1_argument 6 = .ok (.getfield 53, 3) := by decide +kernel
theorem dX1_argument_9 : decode cX1_argument 9 = .ok (.invokestatic 188, 3) := by decide +kernel
theorem dX1_argument_12 : decode cX1_argument 12 = .ok (.invokestatic 178, 3) := by decide +kernel
theorem dX1_argument_15 : decode cX1_argument 15 = .ok (.ireturn, 1) := by decide +kernel
theorem dX1_valueOf_0 : decode cX1_valueOf 0 = .ok (.iload_n 1, 1) := by decide +kernel
theorem dX1_valueOf_1 : decode cX1_valueOf 1 = .ok (.invokestatic 191, 3) := by decide +kernel
theorem dX1_valueOf_4 : decode cX1_valueOf 4 = .ok (.ifCond .eq 11, 3) := by decide +kernel
theorem dX1_valueOf_7 : decode cX1_valueOf 7 = .ok (.aload_n 0, 1) := by decide +kernel
theorem dX1_valueOf_8 : decode cX1_valueOf 8 = .ok (.iload_n 1, 1) := by decide +kernel
theorem dX1_valueOf_9 : decode cX1_valueOf 9 = .ok (.invokevirtual 161, 3) := by decide +kernel
theorem dX1_valueOf_12 : decode cX1_valueOf 12 = .ok (.goto 4, 3) := by decide +kernel
theorem dX1_valueOf_15 : decode cX1_valueOf 15 = .ok (.iload_n 1, 1) := by decide +kernel
theorem dX1_valueOf_16 : decode cX1_valueOf 16 = .ok (.ireturn, 1) := by decide +kernel
theorem dX1_scopeOf_0 : decode cX1_scopeOf 0 = .ok (.iload_n 1, 1) := by decide +kernel
theorem dX1_scopeOf_1 : decode cX1_scopeOf 1 = .ok (.invokestatic 191, 3) := by decide +kernel
theorem dX1_scopeOf_4 : decode cX1_scopeOf 4 = .ok (.ifCond .eq 21, 3) := by decide +kernel
theorem dX1_scopeOf_7 : decode cX1_scopeOf 7 = .ok (.aload_n 0, 1) := by decide +kernel
theorem dX1_scopeOf_8 : decode cX1_scopeOf 8 = .ok (.getfield 21, 3) := by decide +kernel
theorem dX1_scopeOf_11 : decode cX1_scopeOf 11 = .ok (.iload_n 1, 1) := by decide +kernel
theorem dX1_scopeOf_12 : decode cX1_scopeOf 12 = .ok (.aload_n 0, 1) := by decide +kernel
theorem dX1_scopeOf_13 : decode cX1_scopeOf 13 = .ok (.getfield 53, 3) := by decide +kernel
theorem dX1_scopeOf_16 : decode cX1_scopeOf 16 = .ok (.invokestatic 188, 3) := by decide +kernel
theorem dX1_scopeOf_19 : decode cX1_scopeOf 19 = .ok (.invokestatic 178, 3) := by decide +kernel
theorem dX1_scopeOf_22 : decode cX1_scopeOf 22 = .ok (.goto 10, 3) := by decide +kernel
theorem dX1_scopeOf_25 : decode cX1_scopeOf 25 = .ok (.aload_n 0, 1) := by decide +kernel
theorem dX1_scopeOf_26 : decode cX1_scopeOf 26 = .ok (.getfield 36, 3) := by decide +kernel
theorem dX1_scopeOf_29 : decode cX1_scopeOf 29 = .ok (.invokevirtual 167, 3) := by decide +kernel
theorem dX1_scopeOf_32 : decode cX1_scopeOf 32 = .ok (.ireturn, 1) := by decide +kernel
theorem dX2_init_0 : decode cX2_init 0 = .ok (.aload_n 0, 1) := by decide +kernel
theorem dX2_init_1 : decode cX2_init 1 = .ok (.invokespecial 3, 3) := by decide +kernel
theorem dX2_init_4 : decode cX2_init 4 = .ok (.aload_n 0, 1) := by decide +kernel
theorem dX2_init_5 : decode cX2_init 5 = .ok (.sipush 1400, 3) := by decide +kernel
theorem dX2_init_8 : decode cX2_init 8 = .ok (.newarray .int, 2) := by decide +kernel
theorem dX2_init_10 : decode cX2_init 10 = .ok (.putfield 9, 3) := by decide +kernel
theorem dX2_init_13 : decode cX2_init 13 = .ok (.aload_n 0, 1) := by decide +kernel
theorem dX2_init_14 : decode cX2_init 14 = .ok (.sipush 1400, 3) := by decide +kernel
theorem dX2_init_17 : decode cX2_init 17 = .ok (.newarray .boolean, 2) := by decide +kernel
theorem dX2_init_19 : decode cX2_init 19 = .ok (.putfield 15, 3) := by decide +kernel
theorem dX2_init_22 : decode cX2_init 22 = .ok (.return_, 1) := by decide +kernel
theorem dX2_size_0 : decode cX2_size 0 = .ok (.aload_n 0, 1) := by decide +kernel
theorem dX2_size_1 : decode cX2_size 1 = .ok (.getfield 19, 3) := by decide +kernel
theorem dX2_size_4 : decode cX2_size 4 = .ok (.ireturn, 1) := by decide +kernel
theorem dX2_sizeOfRelocations_0 : decode cX2_sizeOfRelocations 0 = .ok (.aload_n 0, 1) := by decide +kernel
theorem dX2_sizeOfRelocations_1 : decode cX2_sizeOfRelocations 1 = .ok (.getfield 23, 3) := by decide +kernel
theorem dX2_sizeOfRelocations_4 : decode cX2_sizeOfRelocations 4 = .ok (.ireturn, 1) := by decide +kernel
theorem dX2_wordOf_0 : decode cX2_wordOf 0 = .ok (.aload_n 0, 1) := by decide +kernel
theorem dX2_wordOf_1 : decode cX2_wordOf 1 = .ok (.getfield 9, 3) := by decide +kernel
theorem dX2_wordOf_4 : decode cX2_wordOf 4 = .ok (.iload_n 1, 1) := by decide +kernel
theorem dX2_wordOf_5 : decode cX2_wordOf 5 = .ok (.invokestatic 26, 3) := by decide +kernel
theorem dX2_wordOf_8 : decode cX2_wordOf 8 = .ok (.ireturn, 1) := by decide +kernel
theorem dX2_holdsAddress_0 : decode cX2_holdsAddress 0 = .ok (.iload_n 1, 1) := by decide +kernel
theorem dX2_holdsAddress_1 : decode cX2_holdsAddress 1 = .ok (.ifCond .lt 24, 3) := by decide +kernel
theorem dX2_holdsAddress_4 : decode cX2_holdsAddress 4 = .ok (.iload_n 1, 1) := by decide +kernel
theorem dX2_holdsAddress_5 : decode cX2_holdsAddress 5 = .ok (.aload_n 0, 1) := by decide +kernel
theorem dX2_holdsAddress_6 : decode cX2_holdsAddress 6 = .ok (.getfield 19, 3) := by decide +kernel
theorem dX2_holdsAddress_9 : decode cX2_holdsAddress 9 = .ok (.if_icmp .ge 16, 3) := by decide +kernel
theorem dX2_holdsAddress_12 : decode cX2_holdsAddress 12 = .ok (.aload_n 0, 1) := by decide +kernel
theorem dX2_holdsAddress_13 : decode cX2_holdsAddress 13 = .ok (.getfield 15, 3) := by decide +kernel
theorem dX2_holdsAddress_16 : decode cX2_holdsAddress 16 = .ok (.iload_n 1, 1) := by decide +kernel
theorem dX2_holdsAddress_17 : decode cX2_holdsAddress 17 = .ok (.baload, 1) := by decide +kernel
theorem dX2_holdsAddress_18 : decode cX2_holdsAddress 18 = .ok (.ifCond .eq 7, 3) := by decide +kernel
theorem dX2_holdsAddress_21 : decode cX2_holdsAddress 21 = .ok (.iconst 1, 1) := by decide +kernel
theorem dX2_holdsAddress_22 : decode cX2_holdsAddress 22 = .ok (.goto 4, 3) := by decide +kernel
theorem dX2_holdsAddress_25 : decode cX2_holdsAddress 25 = .ok (.iconst 0, 1) := by decide +kernel
theorem dX2_holdsAddress_26 : decode cX2_holdsAddress 26 = .ok (.ireturn, 1) := by decide +kernel
theorem dX2_write_0 : decode cX2_write 0 = .ok (.aload_n 0, 1) := by decide +kernel
theorem dX2_write_1 : decode cX2_write 1 = .ok (.iconst 0, 1) := by decide +kernel
theorem dX2_write_2 : decode cX2_write 2 = .ok (.putfield 19, 3) := by decide +kernel
theorem dX2_write_5 : decode cX2_write 5 = .ok (.aload_n 0, 1) := by decide +kernel
theorem dX2_write_6 : decode cX2_write 6 = .ok (.iconst 0, 1) := by decide +kernel
theorem dX2_write_7 : decode cX2_write 7 = .ok (.putfield 23, 3) := by decide +kernel
theorem dX2_write_10 : decode cX2_write 10 = .ok (.iconst 0, 1) := by decide +kernel
theorem dX2_write_11 : decode cX2_write 11 = .ok (.istore_n 2, 1) := by decide +kernel
theorem dX2_write_12 : decode cX2_write 12 = .ok (.iload_n 2, 1) := by decide +kernel
theorem dX2_write_13 : decode cX2_write 13 = .ok (.aload_n 1, 1) := by decide +kernel
theorem dX2_write_14 : decode cX2_write 14 = .ok (.invokevirtual 30, 3) := by decide +kernel
theorem dX2_write_17 : decode cX2_write 17 = .ok (.if_icmp .ge 15, 3) := by decide +kernel
theorem dX2_write_20 : decode cX2_write 20 = .ok (.aload_n 0, 1) := by decide +kernel
theorem dX2_write_21 : decode cX2_write 21 = .ok (.aload_n 1, 1) := by decide +kernel
theorem dX2_write_22 : decode cX2_write 22 = .ok (.iload_n 2, 1) := by decide +kernel
theorem dX2_write_23 : decode cX2_write 23 = .ok (.invokevirtual 36, 3) := by decide +kernel
theorem dX2_write_26 : decode cX2_write 26 = .ok (.iinc 2 1, 3) := by decide +kernel
theorem dX2_write_29 : decode cX2_write 29 = .ok (.goto (-17), 3) := by decide +kernel
theorem dX2_write_32 : decode cX2_write 32 = .ok (.return_, 1) := by decide +kernel
theorem dX2_writeItem_0 : decode cX2_writeItem 0 = .ok (.aload_n 1, 1) := by decide +kernel
theorem dX2_writeItem_1 : decode cX2_writeItem 1 = .ok (.iload_n 2, 1) := by decide +kernel
theorem dX2_writeItem_2 : decode cX2_writeItem 2 = .ok (.invokevirtual 40, 3) := by decide +kernel
theorem dX2_writeItem_5 : decode cX2_writeItem 5 = .ok (.lookupswitch 135 #[(74, 99), (97, 71), (103, 118), (106, 83), (111, 59), (119, 59)], 59) := by decide +kernel
theorem dX2_writeItem_64 : decode cX2_writeItem 64 = .ok (.aload_n 0, 1) := by decide +kernel
theorem dX2_writeItem_65 : decode cX2_writeItem 65 = .ok (.aload_n 1, 1) := by decide +kernel
theorem dX2_writeItem_66 : decode cX2_writeItem 66 = .ok (.iload_n 2, 1) := by decide +kernel
theorem dX2_writeItem_67 : decode cX2_writeItem 67 = .ok (.invokevirtual 44, 3) := by decide +kernel
theorem dX2_writeItem_70 : decode cX2_writeItem 70 = .ok (.invokevirtual 47, 3) := by decide +kernel
theorem dX2_writeItem_73 : decode cX2_writeItem 73 = .ok (.goto 67, 3) := by decide +kernel
theorem dX2_writeItem_76 : decode cX2_writeItem 76 = .ok (.aload_n 0, 1) := by decide +kernel
theorem dX2_writeItem_77 : decode cX2_writeItem 77 = .ok (.aload_n 1, 1) := by decide +kernel
theorem dX2_writeItem_78 : decode cX2_writeItem 78 = .ok (.iload_n 2, 1) := by decide +kernel
theorem dX2_writeItem_79 : decode cX2_writeItem 79 = .ok (.invokevirtual 51, 3) := by decide +kernel
theorem dX2_writeItem_82 : decode cX2_writeItem 82 = .ok (.invokevirtual 54, 3) := by decide +kernel
theorem dX2_writeItem_85 : decode cX2_writeItem 85 = .ok (.goto 55, 3) := by decide +kernel
theorem dX2_writeItem_88 : decode cX2_writeItem 88 = .ok (.aload_n 0, 1) := by decide +kernel
theorem dX2_writeItem_89 : decode cX2_writeItem 89 = .ok (.sipush 10008, 3) := by decide +kernel
theorem dX2_writeItem_92 : decode cX2_writeItem 92 = .ok (.aload_n 1, 1) := by decide +kernel
theorem dX2_writeItem_93 : decode cX2_writeItem 93 = .ok (.iload_n 2, 1) := by decide +kernel
theorem dX2_writeItem_94 : decode cX2_writeItem 94 = .ok (.invokevirtual 57, 3) := by decide +kernel
theorem dX2_writeItem_97 : decode cX2_writeItem 97 = .ok (.iadd, 1) := by decide +kernel
theorem dX2_writeItem_98 : decode cX2_writeItem 98 = .ok (.invokevirtual 47, 3) := by decide +kernel
theorem dX2_writeItem_101 : decode cX2_writeItem 101 = .ok (.goto 39, 3) := by decide +kernel
theorem dX2_writeItem_104 : decode cX2_writeItem 104 = .ok (.aload_n 0, 1) := by decide +kernel
theorem dX2_writeItem_105 : decode cX2_writeItem 105 = .ok (.sipush 20000, 3) := by decide +kernel
theorem dX2_writeItem_108 : decode cX2_writeItem 108 = .ok (.invokevirtual 47, 3) := by decide +kernel
theorem dX2_writeItem_111 : decode cX2_writeItem 111 = .ok (.aload_n 0, 1) := by decide +kernel
theorem dX2_writeItem_112 : decode cX2_writeItem 112 = .ok (.aload_n 1, 1) := by decide +kernel
theorem dX2_writeItem_113 : decode cX2_writeItem 113 = .ok (.iload_n 2, 1) := by decide +kernel
theorem dX2_writeItem_114 : decode cX2_writeItem 114 = .ok (.invokevirtual 51, 3) := by decide +kernel
theorem dX2_writeItem_117 : decode cX2_writeItem 117 = .ok (.invokevirtual 54, 3) := by decide +kernel
theorem dX2_writeItem_120 : decode cX2_writeItem 120 = .ok (.goto 20, 3) := by decide +kernel
theorem dX2_writeItem_123 : decode cX2_writeItem 123 = .ok (.aload_n 0, 1) := by decide +kernel
theorem dX2_writeItem_124 : decode cX2_writeItem 124 = .ok (.aload_n 1, 1) := by decide +kernel
theorem dX2_writeItem_125 : decode cX2_writeItem 125 = .ok (.iload_n 2, 1) := by decide +kernel
theorem dX2_writeItem_126 : decode cX2_writeItem 126 = .ok (.aload_n 1, 1) := by decide +kernel
theorem dX2_writeItem_127 : decode cX2_writeItem 127 = .ok (.iload_n 2, 1) := by decide +kernel
theorem dX2_writeItem_128 : decode cX2_writeItem 128 = .ok (.invokevirtual 60, 3) := by decide +kernel
theorem dX2_writeItem_131 : decode cX2_writeItem 131 = .ok (.invokevirtual 63, 3) := by decide +kernel
theorem dX2_writeItem_134 : decode cX2_writeItem 134 = .ok (.invokevirtual 67, 3) := by decide +kernel
theorem dX2_writeItem_137 : decode cX2_writeItem 137 = .ok (.goto 3, 3) := by decide +kernel
theorem dX2_writeItem_140 : decode cX2_writeItem 140 = .ok (.return_, 1) := by decide +kernel
theorem dX2_fill_0 : decode cX2_fill 0 = .ok (.iconst 0, 1) := by decide +kernel
theorem dX2_fill_1 : decode cX2_fill 1 = .ok (.istore_n 2, 1) := by decide +kernel
theorem dX2_fill_2 : decode cX2_fill 2 = .ok (.iload_n 2, 1) := by decide +kernel
theorem dX2_fill_3 : decode cX2_fill 3 = .ok (.iload_n 1, 1) := by decide +kernel
theorem dX2_fill_4 : decode cX2_fill 4 = .ok (.if_icmp .ge 14, 3) := by decide +kernel
theorem dX2_fill_7 : decode cX2_fill 7 = .ok (.aload_n 0, 1) := by decide +kernel
theorem dX2_fill_8 : decode cX2_fill 8 = .ok (.iconst 0, 1) := by decide +kernel
theorem dX2_fill_9 : decode cX2_fill 9 = .ok (.invokevirtual 47, 3) := by decide +kernel
theorem dX2_fill_12 : decode cX2_fill 12 = .ok (.iinc 2 1, 3) := by decide +kernel
theorem dX2_fill_15 : decode cX2_fill 15 = .ok (.goto (-13), 3) := by decide +kernel
theorem dX2_fill_18 : decode cX2_fill 18 = .ok (.return_, 1) := by decide +kernel
theorem dX2_putAddress_0 : decode cX2_putAddress 0 = .ok (.aload_n 0, 1) := by decide +kernel
theorem dX2_putAddress_1 : decode cX2_putAddress 1 = .ok (.iload_n 1, 1) := by decide +kernel
theorem dX2_putAddress_2 : decode cX2_putAddress 2 = .ok (.invokevirtual 47, 3) := by decide +kernel
theorem dX2_putAddress_5 : decode cX2_putAddress 5 = .ok (.aload_n 0, 1) := by decide +kernel
theorem dX2_putAddress_6 : decode cX2_putAddress 6 = .ok (.getfield 19, 3) := by decide +kernel
theorem dX2_putAddress_9 : decode cX2_putAddress 9 = .ok (.ifCond .le 25, 3) := by decide +kernel
theorem dX2_putAddress_12 : decode cX2_putAddress 12 = .ok (.aload_n 0, 1) := by decide +kernel
theorem dX2_putAddress_13 : decode cX2_putAddress 13 = .ok (.getfield 15, 3) := by decide +kernel
theorem dX2_putAddress_16 : decode cX2_putAddress 16 = .ok (.aload_n 0, 1) := by decide +kernel
theorem dX2_putAddress_17 : decode cX2_putAddress 17 = .ok (.getfield 19, 3) := by decide +kernel
theorem dX2_putAddress_20 : decode cX2_putAddress 20 = .ok (.iconst 1, 1) := by decide +kernel
theorem dX2_putAddress_21 : decode cX2_putAddress 21 = .ok (.isub, 1) := by decide +kernel
theorem dX2_putAddress_22 : decode cX2_putAddress 22 = .ok (.iconst 1, 1) := by decide +kernel
theorem dX2_putAddress_23 : decode cX2_putAddress 23 = .ok (.bastore, 1) := by decide +kernel
theorem dX2_putAddress_24 : decode cX2_putAddress 24 = .ok (.aload_n 0, 1) := by decide +kernel
theorem dX2_putAddress_25 : decode cX2_putAddress 25 = .ok (.dup, 1) := by decide +kernel
theorem dX2_putAddress_26 : decode cX2_putAddress 26 = .ok (.getfield 23, 3) := by decide +kernel
theorem dX2_putAddress_29 : decode cX2_putAddress 29 = .ok (.iconst 1, 1) := by decide +kernel
theorem dX2_putAddress_30 : decode cX2_putAddress 30 = .ok (.iadd, 1) := by decide +kernel
theorem dX2_putAddress_31 : decode cX2_putAddress 31 = .ok (.putfield 23, 3) := by decide +kernel
theorem dX2_putAddress_34 : decode cX2_putAddress 34 = .ok (.return_, 1) := by decide +kernel
theorem dX2_put_0 : decode cX2_put 0 = .ok (.aload_n 0, 1) := by decide +kernel
theorem dX2_put_1 : decode cX2_put 1 = .ok (.getfield 19, 3) := by decide +kernel
theorem dX2_put_4 : decode cX2_put 4 = .ok (.sipush 1400, 3) := by decide +kernel
theorem dX2_put_7 : decode cX2_put 7 = .ok (.if_icmp .ge 33, 3) := by decide +kernel
theorem dX2_put_10 : decode cX2_put 10 = .ok (.aload_n 0, 1) := by decide +kernel
theorem dX2_put_11 : decode cX2_put 11 = .ok (.getfield 9, 3) := by decide +kernel
theorem dX2_put_14 : decode cX2_put 14 = .ok (.aload_n 0, 1) := by decide +kernel
theorem dX2_put_15 : decode cX2_put 15 = .ok (.getfield 19, 3) := by decide +kernel
theorem dX2_put_18 : decode cX2_put 18 = .ok (.iload_n 1, 1) := by decide +kernel
theorem dX2_put_19 : decode cX2_put 19 = .ok (.iastore, 1) := by decide +kernel
theorem dX2_put_20 : decode cX2_put 20 = .ok (.aload_n 0, 1) := by decide +kernel
theorem dX2_put_21 : decode cX2_put 21 = .ok (.getfield 15, 3) := by decide +kernel
theorem dX2_put_24 : decode cX2_put 24 = .ok (.aload_n 0, 1) := by decide +kernel
theorem dX2_put_25 : decode cX2_put 25 = .ok (.getfield 19, 3) := by decide +kernel
theorem dX2_put_28 : decode cX2_put 28 = .ok (.iconst 0, 1) := by decide +kernel
theorem dX2_put_29 : decode cX2_put 29 = .ok (.bastore, 1) := by decide +kernel
theorem dX2_put_30 : decode cX2_put 30 = .ok (.aload_n 0, 1) := by decide +kernel
theorem dX2_put_31 : decode cX2_put 31 = .ok (.dup, 1) := by decide +kernel
theorem dX2_put_32 : decode cX2_put 32 = .ok (.getfield 19, 3) := by decide +kernel
theorem dX2_put_35 : decode cX2_put 35 = .ok (.iconst 1, 1) := by decide +kernel
theorem dX2_put_36 : decode cX2_put 36 = .ok (.iadd, 1) := by decide +kernel
theorem dX2_put_37 : decode cX2_put 37 = .ok (.putfield 19, 3) := by decide +kernel
theorem dX2_put_40 : decode cX2_put 40 = .ok (.return_, 1) := by decide +kernel
theorem dX3_init_0 : decode cX3_init 0 = .ok (.aload_n 0, 1) := by decide +kernel
theorem dX3_init_1 : decode cX3_init 1 = .ok (.invokespecial 3, 3) := by decide +kernel
theorem dX3_init_4 : decode cX3_init 4 = .ok (.aload_n 0, 1) := by decide +kernel
theorem dX3_init_5 : decode cX3_init 5 = .ok (.sipush 200, 3) := by decide +kernel
theorem dX3_init_8 : decode cX3_init 8 = .ok (.newarray .int, 2) := by decide +kernel
theorem dX3_init_10 : decode cX3_init 10 = .ok (.putfield 9, 3) := by decide +kernel
theorem dX3_init_13 : decode cX3_init 13 = .ok (.aload_n 0, 1) := by decide +kernel
theorem dX3_init_14 : decode cX3_init 14 = .ok (.sipush 200, 3) := by decide +kernel
theorem dX3_init_17 : decode cX3_init 17 = .ok (.newarray .int, 2) := by decide +kernel
theorem dX3_init_19 : decode cX3_init 19 = .ok (.putfield 15, 3) := by decide +kernel
theorem dX3_init_22 : decode cX3_init 22 = .ok (.aload_n 0, 1) := by decide +kernel
theorem dX3_init_23 : decode cX3_init 23 = .ok (.sipush 200, 3) := by decide +kernel
theorem dX3_init_26 : decode cX3_init 26 = .ok (.newarray .int, 2) := by decide +kernel
theorem dX3_init_28 : decode cX3_init 28 = .ok (.putfield 18, 3) := by decide +kernel
theorem dX3_init_31 : decode cX3_init 31 = .ok (.aload_n 0, 1) := by decide +kernel
theorem dX3_init_32 : decode cX3_init 32 = .ok (.sipush 200, 3) := by decide +kernel
theorem dX3_init_35 : decode cX3_init 35 = .ok (.newarray .int, 2) := by decide +kernel
theorem dX3_init_37 : decode cX3_init 37 = .ok (.putfield 21, 3) := by decide +kernel
theorem dX3_init_40 : decode cX3_init 40 = .ok (.aload_n 0, 1) := by decide +kernel
theorem dX3_init_41 : decode cX3_init 41 = .ok (.sipush 200, 3) := by decide +kernel
theorem dX3_init_44 : decode cX3_init 44 = .ok (.newarray .int, 2) := by decide +kernel
theorem dX3_init_46 : decode cX3_init 46 = .ok (.putfield 24, 3) := by decide +kernel
theorem dX3_init_49 : decode cX3_init 49 = .ok (.aload_n 0, 1) := by decide +kernel
theorem dX3_init_50 : decode cX3_init 50 = .ok (.sipush 200, 3) := by decide +kernel
theorem dX3_init_53 : decode cX3_init 53 = .ok (.newarray .int, 2) := by decide +kernel
theorem dX3_init_55 : decode cX3_init 55 = .ok (.putfield 27, 3) := by decide +kernel
theorem dX3_init_58 : decode cX3_init 58 = .ok (.return_, 1) := by decide +kernel
theorem dX3_size_0 : decode cX3_size 0 = .ok (.aload_n 0, 1) := by decide +kernel
theorem dX3_size_1 : decode cX3_size 1 = .ok (.getfield 30, 3) := by decide +kernel
theorem dX3_size_4 : decode cX3_size 4 = .ok (.ireturn, 1) := by decide +kernel
theorem dX3_sizeOfPasses_0 : decode cX3_sizeOfPasses 0 = .ok (.aload_n 0, 1) := by decide +kernel
theorem dX3_sizeOfPasses_1 : decode cX3_sizeOfPasses 1 = .ok (.getfield 34, 3) := by decide +kernel
theorem dX3_sizeOfPasses_4 : decode cX3_sizeOfPasses 4 = .ok (.ireturn, 1) := by decide +kernel
theorem dX3_line_0 : decode cX3_line 0 = .ok (.aload_n 0, 1) := by decide +kernel
theorem dX3_line_1 : decode cX3_line 1 = .ok (.getfield 9, 3) := by decide +kernel
theorem dX3_line_4 : decode cX3_line 4 = .ok (.iload_n 1, 1) := by decide +kernel
theorem dX3_line_5 : decode cX3_line 5 = .ok (.invokestatic 37, 3) := by decide +kernel
theorem dX3_line_8 : decode cX3_line 8 = .ok (.ireturn, 1) := by decide +kernel
theorem dX3_kind_0 : decode cX3_kind 0 = .ok (.aload_n 0, 1) := by decide +kernel
theorem dX3_kind_1 : decode cX3_kind 1 = .ok (.getfield 15, 3) := by decide +kernel
theorem dX3_kind_4 : decode cX3_kind 4 = .ok (.iload_n 1, 1) := by decide +kernel
theorem dX3_kind_5 : decode cX3_kind 5 = .ok (.invokestatic 37, 3) := by decide +kernel
theorem dX3_kind_8 : decode cX3_kind 8 = .ok (.ireturn, 1) := by decide +kernel
theorem dX3_depth_0 : decode cX3_depth 0 = .ok (.aload_n 0, 1) := by decide +kernel
theorem dX3_depth_1 : decode cX3_depth 1 = .ok (.getfield 18, 3) := by decide +kernel
theorem dX3_depth_4 : decode cX3_depth 4 = .ok (.iload_n 1, 1) := by decide +kernel
theorem dX3_depth_5 : decode cX3_depth 5 = .ok (.invokestatic 37, 3) := by decide +kernel
theorem dX3_depth_8 : decode cX3_depth 8 = .ok (.ireturn, 1) := by decide +kernel
theorem dX3_value_0 : decode cX3_value 0 = .ok (.aload_n 0, 1) := by decide +kernel
theorem dX3_value_1 : decode cX3_value 1 = .ok (.getfield 21, 3) := by decide +kernel
theorem dX3_value_4 : decode cX3_value 4 = .ok (.iload_n 1, 1) := by decide +kernel
theorem dX3_value_5 : decode cX3_value 5 = .ok (.invokestatic 37, 3) := by decide +kernel
theorem dX3_value_8 : decode cX3_value 8 = .ok (.ireturn, 1) := by decide +kernel
theorem dX3_target_0 : decode cX3_target 0 = .ok (.aload_n 0, 1) := by decide +kernel
theorem dX3_target_1 : decode cX3_target 1 = .ok (.getfield 24, 3) := by decide +kernel
theorem dX3_target_4 : decode cX3_target 4 = .ok (.iload_n 1, 1) := by decide +kernel
theorem dX3_target_5 : decode cX3_target 5 = .ok (.invokestatic 37, 3) := by decide +kernel
theorem dX3_target_8 : decode cX3_target 8 = .ok (.ireturn, 1) := by decide +kernel
theorem dX3_addressAt_0 : decode cX3_addressAt 0 = .ok (.aload_n 0, 1) := by decide +kernel
theorem dX3_addressAt_1 : decode cX3_addressAt 1 = .ok (.getfield 27, 3) := by decide +kernel
theorem dX3_addressAt_4 : decode cX3_addressAt 4 = .ok (.iload_n 1, 1) := by decide +kernel
theorem dX3_addressAt_5 : decode cX3_addressAt 5 = .ok (.invokestatic 37, 3) := by decide +kernel
theorem dX3_addressAt_8 : decode cX3_addressAt 8 = .ok (.ireturn, 1) := by decide +kernel
theorem dX3_targetAddress_0 : decode cX3_targetAddress 0 = .ok (.aload_n 0, 1) := by decide +kernel
theorem dX3_targetAddress_1 : decode cX3_targetAddress 1 = .ok (.aload_n 0, 1) := by decide +kernel
theorem dX3_targetAddress_2 : decode cX3_targetAddress 2 = .ok (.iload_n 1, 1) := by decide +kernel
theorem dX3_targetAddress_3 : decode cX3_targetAddress 3 = .ok (.invokevirtual 41, 3) := by decide +kernel
theorem dX3_targetAddress_6 : decode cX3_targetAddress 6 = .ok (.invokevirtual 45, 3) := by decide +kernel
theorem dX3_targetAddress_9 : decode cX3_targetAddress 9 = .ok (.ireturn, 1) := by decide +kernel
theorem dX3_distance_0 : decode cX3_distance 0 = .ok (.aload_n 0, 1) := by decide +kernel
theorem dX3_distance_1 : decode cX3_distance 1 = .ok (.iload_n 1, 1) := by decide +kernel
theorem dX3_distance_2 : decode cX3_distance 2 = .ok (.invokevirtual 48, 3) := by decide +kernel
theorem dX3_distance_5 : decode cX3_distance 5 = .ok (.aload_n 0, 1) := by decide +kernel
theorem dX3_distance_6 : decode cX3_distance 6 = .ok (.iload_n 1, 1) := by decide +kernel
theorem dX3_distance_7 : decode cX3_distance 7 = .ok (.invokevirtual 45, 3) := by decide +kernel
theorem dX3_distance_10 : decode cX3_distance 10 = .ok (.isub, 1) := by decide +kernel
theorem dX3_distance_11 : decode cX3_distance 11 = .ok (.iconst 1, 1) := by decide +kernel
theorem dX3_distance_12 : decode cX3_distance 12 = .ok (.isub, 1) := by decide +kernel
theorem dX3_distance_13 : decode cX3_distance 13 = .ok (.ireturn, 1) := by decide +kernel
theorem dX3_removeAll_0 : decode cX3_removeAll 0 = .ok (.aload_n 0, 1) := by decide +kernel
theorem dX3_removeAll_1 : decode cX3_removeAll 1 = .ok (.iconst 0, 1) := by decide +kernel
theorem dX3_removeAll_2 : decode cX3_removeAll 2 = .ok (.putfield 30, 3) := by decide +kernel
theorem dX3_removeAll_5 : decode cX3_removeAll 5 = .ok (.return_, 1) := by decide +kernel
theorem dX3_isFull_0 : decode cX3_isFull 0 = .ok (.aload_n 0, 1) := by decide +kernel
theorem dX3_isFull_1 : decode cX3_isFull 1 = .ok (.getfield 30, 3) := by decide +kernel
theorem dX3_isFull_4 : decode cX3_isFull 4 = .ok (.sipush 200, 3) := by decide +kernel
theorem dX3_isFull_7 : decode cX3_isFull 7 = .ok (.if_icmp .lt 7, 3) := by decide +kernel
theorem dX3_isFull_10 : decode cX3_isFull 10 = .ok (.iconst 1, 1) := by decide +kernel
theorem dX3_isFull_11 : decode cX3_isFull 11 = .ok (.goto 4, 3) := by decide +kernel
theorem dX3_isFull_14 : decode cX3_isFull 14 = .ok (.iconst 0, 1) := by decide +kernel
theorem dX3_isFull_15 : decode cX3_isFull 15 = .ok (.ireturn, 1) := by decide +kernel
theorem dX3_add_0 : decode cX3_add 0 = .ok (.aload_n 0, 1) := by decide +kernel
theorem dX3_add_1 : decode cX3_add 1 = .ok (.invokevirtual 51, 3) := by decide +kernel
theorem dX3_add_4 : decode cX3_add 4 = .ok (.ifCond .eq 5, 3) := by decide +kernel
theorem dX3_add_7 : decode cX3_add 7 = .ok (.iconst (-1), 1) := by decide +kernel
theorem dX3_add_8 : decode cX3_add 8 = .ok (.ireturn, 1) := by decide +kernel
theorem dX3_add_9 : decode cX3_add 9 = .ok (.aload_n 0, 1) := by decide +kernel
theorem dX3_add_10 : decode cX3_add 10 = .ok (.getfield 30, 3) := by decide +kernel
theorem dX3_add_13 : decode cX3_add 13 = .ok (.istore 5, 2) := by decide +kernel
theorem dX3_add_15 : decode cX3_add 15 = .ok (.aload_n 0, 1) := by decide +kernel
theorem dX3_add_16 : decode cX3_add 16 = .ok (.getfield 9, 3) := by decide +kernel
theorem dX3_add_19 : decode cX3_add 19 = .ok (.iload 5, 2) := by decide +kernel
theorem dX3_add_21 : decode cX3_add 21 = .ok (.iload_n 1, 1) := by decide +kernel
theorem dX3_add_22 : decode cX3_add 22 = .ok (.iastore, 1) := by decide +kernel
theorem dX3_add_23 : decode cX3_add 23 = .ok (.aload_n 0, 1) := by decide +kernel
theorem dX3_add_24 : decode cX3_add 24 = .ok (.getfield 15, 3) := by decide +kernel
theorem dX3_add_27 : decode cX3_add 27 = .ok (.iload 5, 2) := by decide +kernel
theorem dX3_add_29 : decode cX3_add 29 = .ok (.iload_n 2, 1) := by decide +kernel
theorem dX3_add_30 : decode cX3_add 30 = .ok (.iastore, 1) := by decide +kernel
theorem dX3_add_31 : decode cX3_add 31 = .ok (.aload_n 0, 1) := by decide +kernel
theorem dX3_add_32 : decode cX3_add 32 = .ok (.getfield 18, 3) := by decide +kernel
theorem dX3_add_35 : decode cX3_add 35 = .ok (.iload 5, 2) := by decide +kernel
theorem dX3_add_37 : decode cX3_add 37 = .ok (.iload_n 3, 1) := by decide +kernel
theorem dX3_add_38 : decode cX3_add 38 = .ok (.iastore, 1) := by decide +kernel
theorem dX3_add_39 : decode cX3_add 39 = .ok (.aload_n 0, 1) := by decide +kernel
theorem dX3_add_40 : decode cX3_add 40 = .ok (.getfield 21, 3) := by decide +kernel
theorem dX3_add_43 : decode cX3_add 43 = .ok (.iload 5, 2) := by decide +kernel
theorem dX3_add_45 : decode cX3_add 45 = .ok (.iload 4, 2) := by decide +kernel
theorem dX3_add_47 : decode cX3_add 47 = .ok (.iastore, 1) := by decide +kernel
theorem dX3_add_48 : decode cX3_add 48 = .ok (.aload_n 0, 1) := by decide +kernel
theorem dX3_add_49 : decode cX3_add 49 = .ok (.getfield 24, 3) := by decide +kernel
theorem dX3_add_52 : decode cX3_add 52 = .ok (.iload 5, 2) := by decide +kernel
theorem dX3_add_54 : decode cX3_add 54 = .ok (.iconst (-1), 1) := by decide +kernel
theorem dX3_add_55 : decode cX3_add 55 = .ok (.iastore, 1) := by decide +kernel
theorem dX3_add_56 : decode cX3_add 56 = .ok (.aload_n 0, 1) := by decide +kernel
theorem dX3_add_57 : decode cX3_add 57 = .ok (.dup, 1) := by decide +kernel
theorem dX3_add_58 : decode cX3_add 58 = .ok (.getfield 30, 3) := by decide +kernel
theorem dX3_add_61 : decode cX3_add 61 = .ok (.iconst 1, 1) := by decide +kernel
theorem dX3_add_62 : decode cX3_add 62 = .ok (.iadd, 1) := by decide +kernel
theorem dX3_add_63 : decode cX3_add 63 = .ok (.putfield 30, 3) := by decide +kernel
theorem dX3_add_66 : decode cX3_add 66 = .ok (.iload 5, 2) := by decide +kernel
theorem dX3_add_68 : decode cX3_add 68 = .ok (.ireturn, 1) := by decide +kernel
theorem dX3_aim_0 : decode cX3_aim 0 = .ok (.aload_n 0, 1) := by decide +kernel
theorem dX3_aim_1 : decode cX3_aim 1 = .ok (.getfield 24, 3) := by decide +kernel
theorem dX3_aim_4 : decode cX3_aim 4 = .ok (.iload_n 1, 1) := by decide +kernel
theorem dX3_aim_5 : decode cX3_aim 5 = .ok (.iload_n 2, 1) := by decide +kernel
theorem dX3_aim_6 : decode cX3_aim 6 = .ok (.invokestatic 55, 3) := by decide +kernel
theorem dX3_aim_9 : decode cX3_aim 9 = .ok (.return_, 1) := by decide +kernel
theorem dX3_firstWithoutTarget_0 : decode cX3_firstWithoutTarget 0 = .ok (.iconst 0, 1) := by decide +kernel
theorem dX3_firstWithoutTarget_1 : decode cX3_firstWithoutTarget 1 = .ok (.istore_n 1, 1) := by decide +kernel
theorem dX3_firstWithoutTarget_2 : decode cX3_firstWithoutTarget 2 = .ok (.iload_n 1, 1) := by decide +kernel
theorem dX3_firstWithoutTarget_3 : decode cX3_firstWithoutTarget 3 = .ok (.aload_n 0, 1) := by decide +kernel
theorem dX3_firstWithoutTarget_4 : decode cX3_firstWithoutTarget 4 = .ok (.getfield 30, 3) := by decide +kernel
theorem dX3_firstWithoutTarget_7 : decode cX3_firstWithoutTarget 7 = .ok (.if_icmp .ge 33, 3) := by decide +kernel
theorem dX3_firstWithoutTarget_10 : decode cX3_firstWithoutTarget 10 = .ok (.aload_n 0, 1) := by decide +kernel
theorem dX3_firstWithoutTarget_11 : decode cX3_firstWithoutTarget 11 = .ok (.getfield 15, 3) := by decide +kernel
theorem dX3_firstWithoutTarget_14 : decode cX3_firstWithoutTarget 14 = .ok (.iload_n 1, 1) := by decide +kernel
theorem dX3_firstWithoutTarget_15 : decode cX3_firstWithoutTarget 15 = .ok (.iaload, 1) := by decide +kernel
theorem dX3_firstWithoutTarget_16 : decode cX3_firstWithoutTarget 16 = .ok (.invokestatic 59, 3) := by decide +kernel
theorem dX3_firstWithoutTarget_19 : decode cX3_firstWithoutTarget 19 = .ok (.ifCond .eq 15, 3) := by decide +kernel
theorem dX3_firstWithoutTarget_22 : decode cX3_firstWithoutTarget 22 = .ok (.aload_n 0, 1) := by decide +kernel
theorem dX3_firstWithoutTarget_23 : decode cX3_firstWithoutTarget 23 = .ok (.getfield 24, 3) := by decide +kernel
theorem dX3_firstWithoutTarget_26 : decode cX3_firstWithoutTarget 26 = .ok (.iload_n 1, 1) := by decide +kernel
theorem dX3_firstWithoutTarget_27 : decode cX3_firstWithoutTarget 27 = .ok (.iaload, 1) := by decide +kernel
theorem dX3_firstWithoutTarget_28 : decode cX3_firstWithoutTarget 28 = .ok (.iconst (-1), 1) := by decide +kernel
theorem dX3_firstWithoutTarget_29 : decode cX3_firstWithoutTarget 29 = .ok (.if_icmp .ne 5, 3) := by decide +kernel
theorem dX3_firstWithoutTarget_32 : decode cX3_firstWithoutTarget 32 = .ok (.iload_n 1, 1) := by decide +kernel
theorem dX3_firstWithoutTarget_33 : decode cX3_firstWithoutTarget 33 = .ok (.ireturn, 1) := by decide +kernel
theorem dX3_firstWithoutTarget_34 : decode cX3_firstWithoutTarget 34 = .ok (.iinc 1 1, 3) := by decide +kernel
theorem dX3_firstWithoutTarget_37 : decode cX3_firstWithoutTarget 37 = .ok (.goto (-35), 3) := by decide +kernel
theorem dX3_firstWithoutTarget_40 : decode cX3_firstWithoutTarget 40 = .ok (.iconst (-1), 1) := by decide +kernel
theorem dX3_firstWithoutTarget_41 : decode cX3_firstWithoutTarget 41 = .ok (.ireturn, 1) := by decide +kernel
theorem dX3_countKind_0 : decode cX3_countKind 0 = .ok (.iconst 0, 1) := by decide +kernel
theorem dX3_countKind_1 : decode cX3_countKind 1 = .ok (.istore_n 2, 1) := by decide +kernel
theorem dX3_countKind_2 : decode cX3_countKind 2 = .ok (.iconst 0, 1) := by decide +kernel
theorem dX3_countKind_3 : decode cX3_countKind 3 = .ok (.istore_n 3, 1) := by decide +kernel
theorem dX3_countKind_4 : decode cX3_countKind 4 = .ok (.iload_n 3, 1) := by decide +kernel
theorem dX3_countKind_5 : decode cX3_countKind 5 = .ok (.aload_n 0, 1) := by decide +kernel
theorem dX3_countKind_6 : decode cX3_countKind 6 = .ok (.getfield 30, 3) := by decide +kernel
theorem dX3_countKind_9 : decode cX3_countKind 9 = .ok (.if_icmp .ge 22, 3) := by decide +kernel
theorem dX3_countKind_12 : decode cX3_countKind 12 = .ok (.aload_n 0, 1) := by decide +kernel
theorem dX3_countKind_13 : decode cX3_countKind 13 = .ok (.getfield 15, 3) := by decide +kernel
theorem dX3_countKind_16 : decode cX3_countKind 16 = .ok (.iload_n 3, 1) := by decide +kernel
theorem dX3_countKind_17 : decode cX3_countKind 17 = .ok (.iaload, 1) := by decide +kernel
theorem dX3_countKind_18 : decode cX3_countKind 18 = .ok (.iload_n 1, 1) := by decide +kernel
theorem dX3_countKind_19 : decode cX3_countKind 19 = .ok (.if_icmp .ne 6, 3) := by decide +kernel
theorem dX3_countKind_22 : decode cX3_countKind 22 = .ok (.iinc 2 1, 3) := by decide +kernel
theorem dX3_countKind_25 : decode cX3_countKind 25 = .ok (.iinc 3 1, 3) := by decide +kernel
theorem dX3_countKind_28 : decode cX3_countKind 28 = .ok (.goto (-24), 3) := by decide +kernel
theorem dX3_countKind_31 : decode cX3_countKind 31 = .ok (.iload_n 2, 1) := by decide +kernel
theorem dX3_countKind_32 : decode cX3_countKind 32 = .ok (.ireturn, 1) := by decide +kernel
theorem dX3_wordsBefore_0 : decode cX3_wordsBefore 0 = .ok (.iconst 0, 1) := by decide +kernel
theorem dX3_wordsBefore_1 : decode cX3_wordsBefore 1 = .ok (.istore_n 2, 1) := by decide +kernel
theorem dX3_wordsBefore_2 : decode cX3_wordsBefore 2 = .ok (.iconst 0, 1) := by decide +kernel
theorem dX3_wordsBefore_3 : decode cX3_wordsBefore 3 = .ok (.istore_n 3, 1) := by decide +kernel
theorem dX3_wordsBefore_4 : decode cX3_wordsBefore 4 = .ok (.iload_n 3, 1) := by decide +kernel
theorem dX3_wordsBefore_5 : decode cX3_wordsBefore 5 = .ok (.iload_n 1, 1) := by decide +kernel
theorem dX3_wordsBefore_6 : decode cX3_wordsBefore 6 = .ok (.if_icmp .ge 26, 3) := by decide +kernel
theorem dX3_wordsBefore_9 : decode cX3_wordsBefore 9 = .ok (.iload_n 3, 1) := by decide +kernel
theorem dX3_wordsBefore_10 : decode cX3_wordsBefore 10 = .ok (.aload_n 0, 1) := by decide +kernel
theorem dX3_wordsBefore_11 : decode cX3_wordsBefore 11 = .ok (.getfield 30, 3) := by decide +kernel
theorem dX3_wordsBefore_14 : decode cX3_wordsBefore 14 = .ok (.if_icmp .ge 18, 3) := by decide +kernel
theorem dX3_wordsBefore_17 : decode cX3_wordsBefore 17 = .ok (.iload_n 2, 1) := by decide +kernel
theorem dX3_wordsBefore_18 : decode cX3_wordsBefore 18 = .ok (.aload_n 0, 1) := by decide +kernel
theorem dX3_wordsBefore_19 : decode cX3_wordsBefore 19 = .ok (.iload_n 3, 1) := by decide +kernel
theorem dX3_wordsBefore_20 : decode cX3_wordsBefore 20 = .ok (.iload_n 2, 1) := by decide +kernel
theorem dX3_wordsBefore_21 : decode cX3_wordsBefore 21 = .ok (.invokevirtual 63, 3) := by decide +kernel
theorem dX3_wordsBefore_24 : decode cX3_wordsBefore 24 = .ok (.iadd, 1) := by decide +kernel
theorem dX3_wordsBefore_25 : decode cX3_wordsBefore 25 = .ok (.istore_n 2, 1) := by decide +kernel
theorem dX3_wordsBefore_26 : decode cX3_wordsBefore 26 = .ok (.iinc 3 1, 3) := by decide +kernel
theorem dX3_wordsBefore_29 : decode cX3_wordsBefore 29 = .ok (.goto (-25), 3) := by decide +kernel
theorem dX3_wordsBefore_32 : decode cX3_wordsBefore 32 = .ok (.iload_n 2, 1) := by decide +kernel
theorem dX3_wordsBefore_33 : decode cX3_wordsBefore 33 = .ok (.ireturn, 1) := by decide +kernel
theorem dX3_place_0 : decode cX3_place 0 = .ok (.iconst 1, 1) := by decide +kernel
theorem dX3_place_1 : decode cX3_place 1 = .ok (.istore_n 1, 1) := by decide +kernel
theorem dX3_place_2 : decode cX3_place 2 = .ok (.aload_n 0, 1) := by decide +kernel
theorem dX3_place_3 : decode cX3_place 3 = .ok (.iconst 0, 1) := by decide +kernel
theorem dX3_place_4 : decode cX3_place 4 = .ok (.putfield 34, 3) := by decide +kernel
theorem dX3_place_7 : decode cX3_place 7 = .ok (.iload_n 1, 1) := by decide +kernel
theorem dX3_place_8 : decode cX3_place 8 = .ok (.ifCond .eq 35, 3) := by decide +kernel
theorem dX3_place_11 : decode cX3_place 11 = .ok (.aload_n 0, 1) := by decide +kernel
theorem dX3_place_12 : decode cX3_place 12 = .ok (.getfield 34, 3) := by decide +kernel
theorem dX3_place_15 : decode cX3_place 15 = .ok (.sipush 200, 3) := by decide +kernel
theorem dX3_place_18 : decode cX3_place 18 = .ok (.if_icmp .gt 25, 3) := by decide +kernel
theorem dX3_place_21 : decode cX3_place 21 = .ok (.aload_n 0, 1) := by decide +kernel
theorem dX3_place_22 : decode cX3_place 22 = .ok (.dup, 1) := by decide +kernel
theorem dX3_place_23 : decode cX3_place 23 = .ok (.getfield 34, 3) := by decide +kernel
theorem dX3_place_26 : decode cX3_place 26 = .ok (.iconst 1, 1) := by decide +kernel
theorem dX3_place_27 : decode cX3_place 27 = .ok (.iadd, 1) := by decide +kernel
theorem dX3_place_28 : decode cX3_place 28 = .ok (.putfield 34, 3) := by decide +kernel
theorem dX3_place_31 : decode cX3_place 31 = .ok (.aload_n 0, 1) := by decide +kernel
theorem dX3_place_32 : decode cX3_place 32 = .ok (.invokevirtual 67, 3) := by decide +kernel
theorem dX3_place_35 : decode cX3_place 35 = .ok (.aload_n 0, 1) := by decide +kernel
theorem dX3_place_36 : decode cX3_place 36 = .ok (.invokevirtual 70, 3) := by decide +kernel
theorem dX3_place_39 : decode cX3_place 39 = .ok (.istore_n 1, 1) := by decide +kernel
theorem dX3_place_40 : decode cX3_place 40 = .ok (.goto (-33), 3) := by decide +kernel
theorem dX3_place_43 : decode cX3_place 43 = .ok (.return_, 1) := by decide +kernel
theorem dX3_wordsTaken_0 : decode cX3_wordsTaken 0 = .ok (.aload_n 0, 1) := by decide +kernel
theorem dX3_wordsTaken_1 : decode cX3_wordsTaken 1 = .ok (.iload_n 1, 1) := by decide +kernel
theorem dX3_wordsTaken_2 : decode cX3_wordsTaken 2 = .ok (.invokevirtual 73, 3) := by decide +kernel
theorem dX3_wordsTaken_5 : decode cX3_wordsTaken 5 = .ok (.lookupswitch 49 #[(74, 37), (103, 39), (108, 35)], 35) := by decide +kernel
theorem dX3_wordsTaken_40 : decode cX3_wordsTaken 40 = .ok (.iconst 0, 1) := by decide +kernel
theorem dX3_wordsTaken_41 : decode cX3_wordsTaken 41 = .ok (.ireturn, 1) := by decide +kernel
theorem dX3_wordsTaken_42 : decode cX3_wordsTaken 42 = .ok (.iconst 2, 1) := by decide +kernel
theorem dX3_wordsTaken_43 : decode cX3_wordsTaken 43 = .ok (.ireturn, 1) := by decide +kernel
theorem dX3_wordsTaken_44 : decode cX3_wordsTaken 44 = .ok (.iload_n 2, 1) := by decide +kernel
theorem dX3_wordsTaken_45 : decode cX3_wordsTaken 45 = .ok (.aload_n 0, 1) := by decide +kernel
theorem dX3_wordsTaken_46 : decode cX3_wordsTaken 46 = .ok (.iload_n 1, 1) := by decide +kernel
theorem dX3_wordsTaken_47 : decode cX3_wordsTaken 47 = .ok (.invokevirtual 76, 3) := by decide +kernel
theorem dX3_wordsTaken_50 : decode cX3_wordsTaken 50 = .ok (.invokestatic 79, 3) := by decide +kernel
theorem dX3_wordsTaken_53 : decode cX3_wordsTaken 53 = .ok (.ireturn, 1) := by decide +kernel
theorem dX3_wordsTaken_54 : decode cX3_wordsTaken 54 = .ok (.iconst 1, 1) := by decide +kernel
theorem dX3_wordsTaken_55 : decode cX3_wordsTaken 55 = .ok (.ireturn, 1) := by decide +kernel
theorem dX3_wordsToMultiple_0 : decode cX3_wordsToMultiple 0 = .ok (.iload_n 1, 1) := by decide +kernel
theorem dX3_wordsToMultiple_1 : decode cX3_wordsToMultiple 1 = .ok (.iconst 2, 1) := by decide +kernel
theorem dX3_wordsToMultiple_2 : decode cX3_wordsToMultiple 2 = .ok (.if_icmp .ge 5, 3) := by decide +kernel
theorem dX3_wordsToMultiple_5 : decode cX3_wordsToMultiple 5 = .ok (.iconst 0, 1) := by decide +kernel
theorem dX3_wordsToMultiple_6 : decode cX3_wordsToMultiple 6 = .ok (.ireturn, 1) := by decide +kernel
theorem dX3_wordsToMultiple_7 : decode cX3_wordsToMultiple 7 = .ok (.iload_n 0, 1) := by decide +kernel
theorem dX3_wordsToMultiple_8 : decode cX3_wordsToMultiple 8 = .ok (.iload_n 1, 1) := by decide +kernel
theorem dX3_wordsToMultiple_9 : decode cX3_wordsToMultiple 9 = .ok (.irem, 1) := by decide +kernel
theorem dX3_wordsToMultiple_10 : decode cX3_wordsToMultiple 10 = .ok (.istore_n 2, 1) := by decide +kernel
theorem dX3_wordsToMultiple_11 : decode cX3_wordsToMultiple 11 = .ok (.iload_n 2, 1) := by decide +kernel
theorem dX3_wordsToMultiple_12 : decode cX3_wordsToMultiple 12 = .ok (.ifCond .ne 7, 3) := by decide +kernel
theorem dX3_wordsToMultiple_15 : decode cX3_wordsToMultiple 15 = .ok (.iconst 0, 1) := by decide +kernel
theorem dX3_wordsToMultiple_16 : decode cX3_wordsToMultiple 16 = .ok (.goto 6, 3) := by decide +kernel
theorem dX3_wordsToMultiple_19 : decode cX3_wordsToMultiple 19 = .ok (.iload_n 1, 1) := by decide +kernel
theorem dX3_wordsToMultiple_20 : decode cX3_wordsToMultiple 20 = .ok (.iload_n 2, 1) := by decide +kernel
theorem dX3_wordsToMultiple_21 : decode cX3_wordsToMultiple 21 = .ok (.isub, 1) := by decide +kernel
theorem dX3_wordsToMultiple_22 : decode cX3_wordsToMultiple 22 = .ok (.ireturn, 1) := by decide +kernel
theorem dX3_findAddresses_0 : decode cX3_findAddresses 0 = .ok (.iconst 0, 1) := by decide +kernel
theorem dX3_findAddresses_1 : decode cX3_findAddresses 1 = .ok (.istore_n 1, 1) := by decide +kernel
theorem dX3_findAddresses_2 : decode cX3_findAddresses 2 = .ok (.iconst 0, 1) := by decide +kernel
theorem dX3_findAddresses_3 : decode cX3_findAddresses 3 = .ok (.istore_n 2, 1) := by decide +kernel
theorem dX3_findAddresses_4 : decode cX3_findAddresses 4 = .ok (.iload_n 2, 1) := by decide +kernel
theorem dX3_findAddresses_5 : decode cX3_findAddresses 5 = .ok (.aload_n 0, 1) := by decide +kernel
theorem dX3_findAddresses_6 : decode cX3_findAddresses 6 = .ok (.getfield 30, 3) := by decide +kernel
theorem dX3_findAddresses_9 : decode cX3_findAddresses 9 = .ok (.if_icmp .ge 25, 3) := by decide +kernel
theorem dX3_findAddresses_12 : decode cX3_findAddresses 12 = .ok (.aload_n 0, 1) := by decide +kernel
theorem dX3_findAddresses_13 : decode cX3_findAddresses 13 = .ok (.getfield 27, 3) := by decide +kernel
theorem dX3_findAddresses_16 : decode cX3_findAddresses 16 = .ok (.iload_n 2, 1) := by decide +kernel
theorem dX3_findAddresses_17 : decode cX3_findAddresses 17 = .ok (.iload_n 1, 1) := by decide +kernel
theorem dX3_findAddresses_18 : decode cX3_findAddresses 18 = .ok (.iastore, 1) := by decide +kernel
theorem dX3_findAddresses_19 : decode cX3_findAddresses 19 = .ok (.iload_n 1, 1) := by decide +kernel
theorem dX3_findAddresses_20 : decode cX3_findAddresses 20 = .ok (.aload_n 0, 1) := by decide +kernel
theorem dX3_findAddresses_21 : decode cX3_findAddresses 21 = .ok (.iload_n 2, 1) := by decide +kernel
theorem dX3_findAddresses_22 : decode cX3_findAddresses 22 = .ok (.iload_n 1, 1) := by decide +kernel
theorem dX3_findAddresses_23 : decode cX3_findAddresses 23 = .ok (.invokevirtual 63, 3) := by decide +kernel
theorem dX3_findAddresses_26 : decode cX3_findAddresses 26 = .ok (.iadd, 1) := by decide +kernel
theorem dX3_findAddresses_27 : decode cX3_findAddresses 27 = .ok (.istore_n 1, 1) := by decide +kernel
theorem dX3_findAddresses_28 : decode cX3_findAddresses 28 = .ok (.iinc 2 1, 3) := by decide +kernel
theorem dX3_findAddresses_31 : decode cX3_findAddresses 31 = .ok (.goto (-27), 3) := by decide +kernel
theorem dX3_findAddresses_34 : decode cX3_findAddresses 34 = .ok (.return_, 1) := by decide +kernel
theorem dX3_lengthenJumps_0 : decode cX3_lengthenJumps 0 = .ok (.iconst 0, 1) := by decide +kernel
theorem dX3_lengthenJumps_1 : decode cX3_lengthenJumps 1 = .ok (.istore_n 1, 1) := by decide +kernel
theorem dX3_lengthenJumps_2 : decode cX3_lengthenJumps 2 = .ok (.iconst 0, 1) := by decide +kernel
theorem dX3_lengthenJumps_3 : decode cX3_lengthenJumps 3 = .ok (.istore_n 2, 1) := by decide +kernel
theorem dX3_lengthenJumps_4 : decode cX3_lengthenJumps 4 = .ok (.iload_n 2, 1) := by decide +kernel
theorem dX3_lengthenJumps_5 : decode cX3_lengthenJumps 5 = .ok (.aload_n 0, 1) := by decide +kernel
theorem dX3_lengthenJumps_6 : decode cX3_lengthenJumps 6 = .ok (.getfield 30, 3) := by decide +kernel
theorem dX3_lengthenJumps_9 : decode cX3_lengthenJumps 9 = .ok (.if_icmp .ge 41, 3) := by decide +kernel
theorem dX3_lengthenJumps_12 : decode cX3_lengthenJumps 12 = .ok (.aload_n 0, 1) := by decide +kernel
theorem dX3_lengthenJumps_13 : decode cX3_lengthenJumps 13 = .ok (.getfield 15, 3) := by decide +kernel
theorem dX3_lengthenJumps_16 : decode cX3_lengthenJumps 16 = .ok (.iload_n 2, 1) := by decide +kernel
theorem dX3_lengthenJumps_17 : decode cX3_lengthenJumps 17 = .ok (.iaload, 1) := by decide +kernel
theorem dX3_lengthenJumps_18 : decode cX3_lengthenJumps 18 = .ok (.bipush 106, 2) := by decide +kernel
theorem dX3_lengthenJumps_20 : decode cX3_lengthenJumps 20 = .ok (.if_icmp .ne 24, 3) := by decide +kernel
theorem dX3_lengthenJumps_23 : decode cX3_lengthenJumps 23 = .ok (.aload_n 0, 1) := by decide +kernel
theorem dX3_lengthenJumps_24 : decode cX3_lengthenJumps 24 = .ok (.iload_n 2, 1) := by decide +kernel
theorem dX3_lengthenJumps_25 : decode cX3_lengthenJumps 25 = .ok (.invokevirtual 82, 3) := by decide +kernel
theorem dX3_lengthenJumps_28 : decode cX3_lengthenJumps 28 = .ok (.invokestatic 85, 3) := by decide +kernel
theorem dX3_lengthenJumps_31 : decode cX3_lengthenJumps 31 = .ok (.ifCond .ne 13, 3) := by decide +kernel
theorem dX3_lengthenJumps_34 : decode cX3_lengthenJumps 34 = .ok (.aload_n 0, 1) := by decide +kernel
theorem dX3_lengthenJumps_35 : decode cX3_lengthenJumps 35 = .ok (.getfield 15, 3) := by decide +kernel
theorem dX3_lengthenJumps_38 : decode cX3_lengthenJumps 38 = .ok (.iload_n 2, 1) := by decide +kernel
theorem dX3_lengthenJumps_39 : decode cX3_lengthenJumps 39 = .ok (.bipush 74, 2) := by decide +kernel
theorem dX3_lengthenJumps_41 : decode cX3_lengthenJumps 41 = .ok (.iastore, 1) := by decide +kernel
theorem dX3_lengthenJumps_42 : decode cX3_lengthenJumps 42 = .ok (.iconst 1, 1) := by decide +kernel
theorem dX3_lengthenJumps_43 : decode cX3_lengthenJumps 43 = .ok (.istore_n 1, 1) := by decide +kernel
theorem dX3_lengthenJumps_44 : decode cX3_lengthenJumps 44 = .ok (.iinc 2 1, 3) := by decide +kernel
theorem dX3_lengthenJumps_47 : decode cX3_lengthenJumps 47 = .ok (.goto (-43), 3) := by decide +kernel
theorem dX3_lengthenJumps_50 : decode cX3_lengthenJumps 50 = .ok (.iload_n 1, 1) := by decide +kernel
theorem dX3_lengthenJumps_51 : decode cX3_lengthenJumps 51 = .ok (.ireturn, 1) := by decide +kernel
theorem dX3_isShortDistance_0 : decode cX3_isShortDistance 0 = .ok (.iload_n 0, 1) := by decide +kernel
theorem dX3_isShortDistance_1 : decode cX3_isShortDistance 1 = .ok (.bipush (-8), 2) := by decide +kernel
theorem dX3_isShortDistance_3 : decode cX3_isShortDistance 3 = .ok (.if_icmp .lt 13, 3) := by decide +kernel
theorem dX3_isShortDistance_6 : decode cX3_isShortDistance 6 = .ok (.iload_n 0, 1) := by decide +kernel
theorem dX3_isShortDistance_7 : decode cX3_isShortDistance 7 = .ok (.bipush 7, 2) := by decide +kernel
theorem dX3_isShortDistance_9 : decode cX3_isShortDistance 9 = .ok (.if_icmp .gt 7, 3) := by decide +kernel
theorem dX3_isShortDistance_12 : decode cX3_isShortDistance 12 = .ok (.iconst 1, 1) := by decide +kernel
theorem dX3_isShortDistance_13 : decode cX3_isShortDistance 13 = .ok (.goto 4, 3) := by decide +kernel
theorem dX3_isShortDistance_16 : decode cX3_isShortDistance 16 = .ok (.iconst 0, 1) := by decide +kernel
theorem dX3_isShortDistance_17 : decode cX3_isShortDistance 17 = .ok (.ireturn, 1) := by decide +kernel
theorem dX4_init_0 : decode cX4_init 0 = .ok (.aload_n 0, 1) := by decide +kernel
theorem dX4_init_1 : decode cX4_init 1 = .ok (.invokespecial 3, 3) := by decide +kernel
theorem dX4_init_4 : decode cX4_init 4 = .ok (.aload_n 0, 1) := by decide +kernel
theorem dX4_init_5 : decode cX4_init 5 = .ok (.sipush 1620, 3) := by decide +kernel
theorem dX4_init_8 : decode cX4_init 8 = .ok (.newarray .int, 2) := by decide +kernel
theorem dX4_init_10 : decode cX4_init 10 = .ok (.putfield 9, 3) := by decide +kernel
theorem dX4_init_13 : decode cX4_init 13 = .ok (.aload_n 0, 1) := by decide +kernel
theorem dX4_init_14 : decode cX4_init 14 = .ok (.bipush 81, 2) := by decide +kernel
theorem dX4_init_16 : decode cX4_init 16 = .ok (.newarray .int, 2) := by decide +kernel
theorem dX4_init_18 : decode cX4_init 18 = .ok (.putfield 15, 3) := by decide +kernel
theorem dX4_init_21 : decode cX4_init 21 = .ok (.aload_n 0, 1) := by decide +kernel
theorem dX4_init_22 : decode cX4_init 22 = .ok (.bipush 81, 2) := by decide +kernel
theorem dX4_init_24 : decode cX4_init 24 = .ok (.newarray .int, 2) := by decide +kernel
theorem dX4_init_26 : decode cX4_init 26 = .ok (.putfield 18, 3) := by decide +kernel
theorem dX4_init_29 : decode cX4_init 29 = .ok (.aload_n 0, 1) := by decide +kernel
theorem dX4_init_30 : decode cX4_init 30 = .ok (.sipush 200, 3) := by decide +kernel
theorem dX4_init_33 : decode cX4_init 33 = .ok (.newarray .int, 2) := by decide +kernel
theorem dX4_init_35 : decode cX4_init 35 = .ok (.putfield 21, 3) := by decide +kernel
theorem dX4_init_38 : decode cX4_init 38 = .ok (.aload_n 0, 1) := by decide +kernel
theorem dX4_init_39 : decode cX4_init 39 = .ok (.aload_n 1, 1) := by decide +kernel
theorem dX4_init_40 : decode cX4_init 40 = .ok (.putfield 24, 3) := by decide +kernel
theorem dX4_init_43 : decode cX4_init 43 = .ok (.return_, 1) := by decide +kernel
theorem dX4_reset_0 : decode cX4_reset 0 = .ok (.aload_n 0, 1) := by decide +kernel
theorem dX4_reset_1 : decode cX4_reset 1 = .ok (.iconst 0, 1) := by decide +kernel
theorem dX4_reset_2 : decode cX4_reset 2 = .ok (.putfield 28, 3) := by decide +kernel
theorem dX4_reset_5 : decode cX4_reset 5 = .ok (.aload_n 0, 1) := by decide +kernel
theorem dX4_reset_6 : decode cX4_reset 6 = .ok (.iconst (-1), 1) := by decide +kernel
theorem dX4_reset_7 : decode cX4_reset 7 = .ok (.invokevirtual 32, 3) := by decide +kernel
theorem dX4_reset_10 : decode cX4_reset 10 = .ok (.return_, 1) := by decide +kernel
theorem dX4_current_0 : decode cX4_current 0 = .ok (.aload_n 0, 1) := by decide +kernel
theorem dX4_current_1 : decode cX4_current 1 = .ok (.getfield 28, 3) := by decide +kernel
theorem dX4_current_4 : decode cX4_current 4 = .ok (.iconst 1, 1) := by decide +kernel
theorem dX4_current_5 : decode cX4_current 5 = .ok (.isub, 1) := by decide +kernel
theorem dX4_current_6 : decode cX4_current 6 = .ok (.ireturn, 1) := by decide +kernel
theorem dX4_open_0 : decode cX4_open 0 = .ok (.aload_n 0, 1) := by decide +kernel
theorem dX4_open_1 : decode cX4_open 1 = .ok (.getfield 28, 3) := by decide +kernel
theorem dX4_open_4 : decode cX4_open 4 = .ok (.bipush 81, 2) := by decide +kernel
theorem dX4_open_6 : decode cX4_open 6 = .ok (.if_icmp .lt 4, 3) := by decide +kernel
theorem dX4_open_9 : decode cX4_open 9 = .ok (.return_, 1) := by decide +kernel
theorem dX4_open_10 : decode cX4_open 10 = .ok (.aload_n 0, 1) := by decide +kernel
theorem dX4_open_11 : decode cX4_open 11 = .ok (.getfield 15, 3) := by decide +kernel
theorem dX4_open_14 : decode cX4_open 14 = .ok (.aload_n 0, 1) := by decide +kernel
theorem dX4_open_15 : decode cX4_open 15 = .ok (.getfield 28, 3) := by decide +kernel
theorem dX4_open_18 : decode cX4_open 18 = .ok (.iload_n 1, 1) := by decide +kernel
theorem dX4_open_19 : decode cX4_open 19 = .ok (.iastore, 1) := by decide +kernel
theorem dX4_open_20 : decode cX4_open 20 = .ok (.aload_n 0, 1) := by decide +kernel
theorem dX4_open_21 : decode cX4_open 21 = .ok (.getfield 18, 3) := by decide +kernel
theorem dX4_open_24 : decode cX4_open 24 = .ok (.aload_n 0, 1) := by decide +kernel
