theorem dL_passes_0 : decode cL_passes 0 = .ok (.aload_n 0, 1) := by decide +kernel
theorem dL_passes_1 : decode cL_passes 1 = .ok (.invokevirtual 99, 3) := by decide +kernel
theorem dL_passes_4 : decode cL_passes 4 = .ok (.ireturn, 1) := by decide +kernel
theorem dL_passes_5 : decode cL_passes 5 = .ok (.astore_n 1, 1) := by decide +kernel
theorem dL_passes_6 : decode cL_passes 6 = .ok (.bipush (-75), 2) := by decide +kernel
theorem dL_passes_8 : decode cL_passes 8 = .ok (.ireturn, 1) := by decide +kernel
theorem dL_longJumps_0 : decode cL_longJumps 0 = .ok (.aload_n 0, 1) := by decide +kernel
theorem dL_longJumps_1 : decode cL_longJumps 1 = .ok (.invokevirtual 102, 3) := by decide +kernel
theorem dL_longJumps_4 : decode cL_longJumps 4 = .ok (.ireturn, 1) := by decide +kernel
theorem dL_longJumps_5 : decode cL_longJumps 5 = .ok (.astore_n 1, 1) := by decide +kernel
theorem dL_longJumps_6 : decode cL_longJumps 6 = .ok (.bipush (-75), 2) := by decide +kernel
theorem dL_longJumps_8 : decode cL_longJumps 8 = .ok (.ireturn, 1) := by decide +kernel
theorem dL_items_0 : decode cL_items 0 = .ok (.aload_n 0, 1) := by decide +kernel
theorem dL_items_1 : decode cL_items 1 = .ok (.invokevirtual 105, 3) := by decide +kernel
theorem dL_items_4 : decode cL_items 4 = .ok (.ireturn, 1) := by decide +kernel
theorem dL_items_5 : decode cL_items 5 = .ok (.astore_n 1, 1) := by decide +kernel
theorem dL_items_6 : decode cL_items 6 = .ok (.bipush (-75), 2) := by decide +kernel
theorem dL_items_8 : decode cL_items 8 = .ok (.ireturn, 1) := by decide +kernel
theorem dL_lineOf_0 : decode cL_lineOf 0 = .ok (.aload_n 0, 1) := by decide +kernel
theorem dL_lineOf_1 : decode cL_lineOf 1 = .ok (.iload_n 1, 1) := by decide +kernel
theorem dL_lineOf_2 : decode cL_lineOf 2 = .ok (.invokevirtual 108, 3) := by decide +kernel
theorem dL_lineOf_5 : decode cL_lineOf 5 = .ok (.ireturn, 1) := by decide +kernel
theorem dL_lineOf_6 : decode cL_lineOf 6 = .ok (.astore_n 2, 1) := by decide +kernel
theorem dL_lineOf_7 : decode cL_lineOf 7 = .ok (.bipush (-75), 2) := by decide +kernel
theorem dL_lineOf_9 : decode cL_lineOf 9 = .ok (.ireturn, 1) := by decide +kernel
theorem dL_lineOf_10 : decode cL_lineOf 10 = .ok (.astore_n 2, 1) := by decide +kernel
theorem dL_lineOf_11 : decode cL_lineOf 11 = .ok (.bipush (-77), 2) := by decide +kernel
theorem dL_lineOf_13 : decode cL_lineOf 13 = .ok (.ireturn, 1) := by decide +kernel
theorem dL_kindOf_0 : decode cL_kindOf 0 = .ok (.aload_n 0, 1) := by decide +kernel
theorem dL_kindOf_1 : decode cL_kindOf 1 = .ok (.iload_n 1, 1) := by decide +kernel
theorem dL_kindOf_2 : decode cL_kindOf 2 = .ok (.invokevirtual 111, 3) := by decide +kernel
theorem dL_kindOf_5 : decode cL_kindOf 5 = .ok (.ireturn, 1) := by decide +kernel
theorem dL_kindOf_6 : decode cL_kindOf 6 = .ok (.astore_n 2, 1) := by decide +kernel
theorem dL_kindOf_7 : decode cL_kindOf 7 = .ok (.bipush (-75), 2) := by decide +kernel
theorem dL_kindOf_9 : decode cL_kindOf 9 = .ok (.ireturn, 1) := by decide +kernel
theorem dL_kindOf_10 : decode cL_kindOf 10 = .ok (.astore_n 2, 1) := by decide +kernel
theorem dL_kindOf_11 : decode cL_kindOf 11 = .ok (.bipush (-77), 2) := by decide +kernel
theorem dL_kindOf_13 : decode cL_kindOf 13 = .ok (.ireturn, 1) := by decide +kernel
theorem dL_depthOf_0 : decode cL_depthOf 0 = .ok (.aload_n 0, 1) := by decide +kernel
theorem dL_depthOf_1 : decode cL_depthOf 1 = .ok (.iload_n 1, 1) := by decide +kernel
theorem dL_depthOf_2 : decode cL_depthOf 2 = .ok (.invokevirtual 115, 3) := by decide +kernel
theorem dL_depthOf_5 : decode cL_depthOf 5 = .ok (.ireturn, 1) := by decide +kernel
theorem dL_depthOf_6 : decode cL_depthOf 6 = .ok (.astore_n 2, 1) := by decide +kernel
theorem dL_depthOf_7 : decode cL_depthOf 7 = .ok (.bipush (-75), 2) := by decide +kernel
theorem dL_depthOf_9 : decode cL_depthOf 9 = .ok (.ireturn, 1) := by decide +kernel
theorem dL_depthOf_10 : decode cL_depthOf 10 = .ok (.astore_n 2, 1) := by decide +kernel
theorem dL_depthOf_11 : decode cL_depthOf 11 = .ok (.bipush (-77), 2) := by decide +kernel
theorem dL_depthOf_13 : decode cL_depthOf 13 = .ok (.ireturn, 1) := by decide +kernel
theorem dL_addressOf_0 : decode cL_addressOf 0 = .ok (.aload_n 0, 1) := by decide +kernel
theorem dL_addressOf_1 : decode cL_addressOf 1 = .ok (.iload_n 1, 1) := by decide +kernel
theorem dL_addressOf_2 : decode cL_addressOf 2 = .ok (.invokevirtual 118, 3) := by decide +kernel
theorem dL_addressOf_5 : decode cL_addressOf 5 = .ok (.ireturn, 1) := by decide +kernel
theorem dL_addressOf_6 : decode cL_addressOf 6 = .ok (.astore_n 2, 1) := by decide +kernel
theorem dL_addressOf_7 : decode cL_addressOf 7 = .ok (.bipush (-75), 2) := by decide +kernel
theorem dL_addressOf_9 : decode cL_addressOf 9 = .ok (.ireturn, 1) := by decide +kernel
theorem dL_addressOf_10 : decode cL_addressOf 10 = .ok (.astore_n 2, 1) := by decide +kernel
theorem dL_addressOf_11 : decode cL_addressOf 11 = .ok (.bipush (-77), 2) := by decide +kernel
theorem dL_addressOf_13 : decode cL_addressOf 13 = .ok (.ireturn, 1) := by decide +kernel
theorem dL_addressByAdding_0 : decode cL_addressByAdding 0 = .ok (.aload_n 0, 1) := by decide +kernel
theorem dL_addressByAdding_1 : decode cL_addressByAdding 1 = .ok (.iload_n 1, 1) := by decide +kernel
theorem dL_addressByAdding_2 : decode cL_addressByAdding 2 = .ok (.invokevirtual 121, 3) := by decide +kernel
theorem dL_addressByAdding_5 : decode cL_addressByAdding 5 = .ok (.ireturn, 1) := by decide +kernel
theorem dL_addressByAdding_6 : decode cL_addressByAdding 6 = .ok (.astore_n 2, 1) := by decide +kernel
theorem dL_addressByAdding_7 : decode cL_addressByAdding 7 = .ok (.bipush (-75), 2) := by decide +kernel
theorem dL_addressByAdding_9 : decode cL_addressByAdding 9 = .ok (.ireturn, 1) := by decide +kernel
theorem dL_addressByAdding_10 : decode cL_addressByAdding 10 = .ok (.astore_n 2, 1) := by decide +kernel
theorem dL_addressByAdding_11 : decode cL_addressByAdding 11 = .ok (.bipush (-77), 2) := by decide +kernel
theorem dL_addressByAdding_13 : decode cL_addressByAdding 13 = .ok (.ireturn, 1) := by decide +kernel
theorem dL_targetOf_0 : decode cL_targetOf 0 = .ok (.aload_n 0, 1) := by decide +kernel
theorem dL_targetOf_1 : decode cL_targetOf 1 = .ok (.iload_n 1, 1) := by decide +kernel
theorem dL_targetOf_2 : decode cL_targetOf 2 = .ok (.invokevirtual 124, 3) := by decide +kernel
theorem dL_targetOf_5 : decode cL_targetOf 5 = .ok (.ireturn, 1) := by decide +kernel
theorem dL_targetOf_6 : decode cL_targetOf 6 = .ok (.astore_n 2, 1) := by decide +kernel
theorem dL_targetOf_7 : decode cL_targetOf 7 = .ok (.bipush (-75), 2) := by decide +kernel
theorem dL_targetOf_9 : decode cL_targetOf 9 = .ok (.ireturn, 1) := by decide +kernel
theorem dL_targetOf_10 : decode cL_targetOf 10 = .ok (.astore_n 2, 1) := by decide +kernel
theorem dL_targetOf_11 : decode cL_targetOf 11 = .ok (.bipush (-77), 2) := by decide +kernel
theorem dL_targetOf_13 : decode cL_targetOf 13 = .ok (.ireturn, 1) := by decide +kernel
theorem dL_targetOf_14 : decode cL_targetOf 14 = .ok (.astore_n 2, 1) := by decide +kernel
theorem dL_targetOf_15 : decode cL_targetOf 15 = .ok (.bipush (-76), 2) := by decide +kernel
theorem dL_targetOf_17 : decode cL_targetOf 17 = .ok (.ireturn, 1) := by decide +kernel
theorem dL_shortShare_0 : decode cL_shortShare 0 = .ok (.aload_n 0, 1) := by decide +kernel
theorem dL_shortShare_1 : decode cL_shortShare 1 = .ok (.invokevirtual 127, 3) := by decide +kernel
theorem dL_shortShare_4 : decode cL_shortShare 4 = .ok (.freturn, 1) := by decide +kernel
theorem dL_shortShare_5 : decode cL_shortShare 5 = .ok (.astore_n 1, 1) := by decide +kernel
theorem dL_shortShare_6 : decode cL_shortShare 6 = .ok (.ldc 131, 2) := by decide +kernel
theorem dL_shortShare_8 : decode cL_shortShare 8 = .ok (.freturn, 1) := by decide +kernel
theorem dL_shortShare_9 : decode cL_shortShare 9 = .ok (.astore_n 1, 1) := by decide +kernel
theorem dL_shortShare_10 : decode cL_shortShare 10 = .ok (.ldc 134, 2) := by decide +kernel
theorem dL_shortShare_12 : decode cL_shortShare 12 = .ok (.freturn, 1) := by decide +kernel
theorem dL_law_0 : decode cL_law 0 = .ok (.new 15, 3) := by decide +kernel
theorem dL_law_3 : decode cL_law 3 = .ok (.dup, 1) := by decide +kernel
theorem dL_law_4 : decode cL_law 4 = .ok (.invokespecial 135, 3) := by decide +kernel
theorem dL_law_7 : decode cL_law 7 = .ok (.astore_n 1, 1) := by decide +kernel
theorem dL_law_8 : decode cL_law 8 = .ok (.iconst 1, 1) := by decide +kernel
theorem dL_law_9 : decode cL_law 9 = .ok (.aload_n 0, 1) := by decide +kernel
theorem dL_law_10 : decode cL_law 10 = .ok (.iconst 0, 1) := by decide +kernel
theorem dL_law_11 : decode cL_law 11 = .ok (.iconst 5, 1) := by decide +kernel
theorem dL_law_12 : decode cL_law 12 = .ok (.invokestatic 136, 3) := by decide +kernel
theorem dL_law_15 : decode cL_law 15 = .ok (.iadd, 1) := by decide +kernel
theorem dL_law_16 : decode cL_law 16 = .ok (.istore_n 2, 1) := by decide +kernel
theorem dL_law_17 : decode cL_law 17 = .ok (.iconst 1, 1) := by decide +kernel
theorem dL_law_18 : decode cL_law 18 = .ok (.istore_n 3, 1) := by decide +kernel
theorem dL_law_19 : decode cL_law 19 = .ok (.iconst 0, 1) := by decide +kernel
theorem dL_law_20 : decode cL_law 20 = .ok (.istore 4, 2) := by decide +kernel
theorem dL_law_22 : decode cL_law 22 = .ok (.iconst 0, 1) := by decide +kernel
theorem dL_law_23 : decode cL_law 23 = .ok (.istore 5, 2) := by decide +kernel
theorem dL_law_25 : decode cL_law 25 = .ok (.iconst 1, 1) := by decide +kernel
theorem dL_law_26 : decode cL_law 26 = .ok (.istore 6, 2) := by decide +kernel
theorem dL_law_28 : decode cL_law 28 = .ok (.bipush 21, 2) := by decide +kernel
theorem dL_law_30 : decode cL_law 30 = .ok (.newarray .boolean, 2) := by decide +kernel
theorem dL_law_32 : decode cL_law 32 = .ok (.astore 7, 2) := by decide +kernel
theorem dL_law_34 : decode cL_law 34 = .ok (.iconst 0, 1) := by decide +kernel
theorem dL_law_35 : decode cL_law 35 = .ok (.istore 8, 2) := by decide +kernel
theorem dL_law_37 : decode cL_law 37 = .ok (.iload 8, 2) := by decide +kernel
theorem dL_law_39 : decode cL_law 39 = .ok (.bipush 60, 2) := by decide +kernel
theorem dL_law_41 : decode cL_law 41 = .ok (.if_icmp .ge 749, 3) := by decide +kernel
theorem dL_law_44 : decode cL_law 44 = .ok (.iload 6, 2) := by decide +kernel
theorem dL_law_46 : decode cL_law 46 = .ok (.ifCond .eq 744, 3) := by decide +kernel
theorem dL_law_49 : decode cL_law 49 = .ok (.aload_n 1, 1) := by decide +kernel
theorem dL_law_50 : decode cL_law 50 = .ok (.invokevirtual 140, 3) := by decide +kernel
theorem dL_law_53 : decode cL_law 53 = .ok (.istore 9, 2) := by decide +kernel
theorem dL_law_55 : decode cL_law 55 = .ok (.aload_n 1, 1) := by decide +kernel
theorem dL_law_56 : decode cL_law 56 = .ok (.invokevirtual 143, 3) := by decide +kernel
theorem dL_law_59 : decode cL_law 59 = .ok (.istore 10, 2) := by decide +kernel
theorem dL_law_61 : decode cL_law 61 = .ok (.aload_n 1, 1) := by decide +kernel
theorem dL_law_62 : decode cL_law 62 = .ok (.invokestatic 146, 3) := by decide +kernel
theorem dL_law_65 : decode cL_law 65 = .ok (.istore 11, 2) := by decide +kernel
theorem dL_law_67 : decode cL_law 67 = .ok (.aload_n 0, 1) := by decide +kernel
theorem dL_law_68 : decode cL_law 68 = .ok (.iload_n 3, 1) := by decide +kernel
theorem dL_law_69 : decode cL_law 69 = .ok (.bipush 26, 2) := by decide +kernel
theorem dL_law_71 : decode cL_law 71 = .ok (.invokestatic 136, 3) := by decide +kernel
theorem dL_law_74 : decode cL_law 74 = .ok (.istore 12, 2) := by decide +kernel
theorem dL_law_76 : decode cL_law 76 = .ok (.aload_n 0, 1) := by decide +kernel
theorem dL_law_77 : decode cL_law 77 = .ok (.iload_n 3, 1) := by decide +kernel
theorem dL_law_78 : decode cL_law 78 = .ok (.iconst 1, 1) := by decide +kernel
theorem dL_law_79 : decode cL_law 79 = .ok (.iadd, 1) := by decide +kernel
theorem dL_law_80 : decode cL_law 80 = .ok (.sipush 1000, 3) := by decide +kernel
theorem dL_law_83 : decode cL_law 83 = .ok (.invokestatic 136, 3) := by decide +kernel
theorem dL_law_86 : decode cL_law 86 = .ok (.istore 13, 2) := by decide +kernel
theorem dL_law_88 : decode cL_law 88 = .ok (.iload 5, 2) := by decide +kernel
theorem dL_law_90 : decode cL_law 90 = .ok (.ifCond .eq 14, 3) := by decide +kernel
theorem dL_law_93 : decode cL_law 93 = .ok (.iload 13, 2) := by decide +kernel
theorem dL_law_95 : decode cL_law 95 = .ok (.iconst 4, 1) := by decide +kernel
theorem dL_law_96 : decode cL_law 96 = .ok (.irem, 1) := by decide +kernel
theorem dL_law_97 : decode cL_law 97 = .ok (.ifCond .ne 7, 3) := by decide +kernel
theorem dL_law_100 : decode cL_law 100 = .ok (.iconst (-1), 1) := by decide +kernel
theorem dL_law_101 : decode cL_law 101 = .ok (.goto 20, 3) := by decide +kernel
theorem dL_law_104 : decode cL_law 104 = .ok (.iload 13, 2) := by decide +kernel
theorem dL_law_106 : decode cL_law 106 = .ok (.bipush 37, 2) := by decide +kernel
theorem dL_law_108 : decode cL_law 108 = .ok (.irem, 1) := by decide +kernel
theorem dL_law_109 : decode cL_law 109 = .ok (.ifCond .ne 8, 3) := by decide +kernel
theorem dL_law_112 : decode cL_law 112 = .ok (.bipush 20, 2) := by decide +kernel
theorem dL_law_114 : decode cL_law 114 = .ok (.goto 7, 3) := by decide +kernel
theorem dL_law_117 : decode cL_law 117 = .ok (.iload 13, 2) := by decide +kernel
theorem dL_law_119 : decode cL_law 119 = .ok (.iload_n 2, 1) := by decide +kernel
theorem dL_law_120 : decode cL_law 120 = .ok (.irem, 1) := by decide +kernel
theorem dL_law_121 : decode cL_law 121 = .ok (.istore 14, 2) := by decide +kernel
theorem dL_law_123 : decode cL_law 123 = .ok (.iconst 0, 1) := by decide +kernel
theorem dL_law_124 : decode cL_law 124 = .ok (.istore 15, 2) := by decide +kernel
theorem dL_law_126 : decode cL_law 126 = .ok (.iload 12, 2) := by decide +kernel
theorem dL_law_128 : decode cL_law 128 = .ok (.iconst 4, 1) := by decide +kernel
theorem dL_law_129 : decode cL_law 129 = .ok (.if_icmp .ge 75, 3) := by decide +kernel
theorem dL_law_132 : decode cL_law 132 = .ok (.iload 5, 2) := by decide +kernel
theorem dL_law_134 : decode cL_law 134 = .ok (.ifCond .ne 21, 3) := by decide +kernel
theorem dL_law_137 : decode cL_law 137 = .ok (.iload 4, 2) := by decide +kernel
theorem dL_law_139 : decode cL_law 139 = .ok (.ifCond .gt 16, 3) := by decide +kernel
theorem dL_law_142 : decode cL_law 142 = .ok (.iload 14, 2) := by decide +kernel
theorem dL_law_144 : decode cL_law 144 = .ok (.ifCond .lt 11, 3) := by decide +kernel
theorem dL_law_147 : decode cL_law 147 = .ok (.aload 7, 2) := by decide +kernel
theorem dL_law_149 : decode cL_law 149 = .ok (.iload 14, 2) := by decide +kernel
theorem dL_law_151 : decode cL_law 151 = .ok (.baload, 1) := by decide +kernel
theorem dL_law_152 : decode cL_law 152 = .ok (.ifCond .ne 52, 3) := by decide +kernel
theorem dL_law_155 : decode cL_law 155 = .ok (.aload_n 1, 1) := by decide +kernel
theorem dL_law_156 : decode cL_law 156 = .ok (.iload 14, 2) := by decide +kernel
theorem dL_law_158 : decode cL_law 158 = .ok (.invokestatic 150, 3) := by decide +kernel
theorem dL_law_161 : decode cL_law 161 = .ok (.istore 15, 2) := by decide +kernel
theorem dL_law_163 : decode cL_law 163 = .ok (.aload 7, 2) := by decide +kernel
theorem dL_law_165 : decode cL_law 165 = .ok (.iload 14, 2) := by decide +kernel
theorem dL_law_167 : decode cL_law 167 = .ok (.ifCond .ge 8, 3) := by decide +kernel
theorem dL_law_170 : decode cL_law 170 = .ok (.bipush 20, 2) := by decide +kernel
theorem dL_law_172 : decode cL_law 172 = .ok (.goto 5, 3) := by decide +kernel
theorem dL_law_175 : decode cL_law 175 = .ok (.iload 14, 2) := by decide +kernel
theorem dL_law_177 : decode cL_law 177 = .ok (.dup2, 1) := by decide +kernel
theorem dL_law_178 : decode cL_law 178 = .ok (.baload, 1) := by decide +kernel
theorem dL_law_179 : decode cL_law 179 = .ok (.iload 15, 2) := by decide +kernel
theorem dL_law_181 : decode cL_law 181 = .ok (.ifCond .lt 17, 3) := by decide +kernel
theorem dL_law_184 : decode cL_law 184 = .ok (.iload 5, 2) := by decide +kernel
theorem dL_law_186 : decode cL_law 186 = .ok (.ifCond .ne 12, 3) := by decide +kernel
theorem dL_law_189 : decode cL_law 189 = .ok (.iload 4, 2) := by decide +kernel
theorem dL_law_191 : decode cL_law 191 = .ok (.ifCond .ne 7, 3) := by decide +kernel
theorem dL_law_194 : decode cL_law 194 = .ok (.iconst 1, 1) := by decide +kernel
theorem dL_law_195 : decode cL_law 195 = .ok (.goto 4, 3) := by decide +kernel
theorem dL_law_198 : decode cL_law 198 = .ok (.iconst 0, 1) := by decide +kernel
theorem dL_law_199 : decode cL_law 199 = .ok (.ior, 1) := by decide +kernel
theorem dL_law_200 : decode cL_law 200 = .ok (.bastore, 1) := by decide +kernel
theorem dL_law_201 : decode cL_law 201 = .ok (.goto 435, 3) := by decide +kernel
theorem dL_law_204 : decode cL_law 204 = .ok (.iload 12, 2) := by decide +kernel
theorem dL_law_206 : decode cL_law 206 = .ok (.bipush 9, 2) := by decide +kernel
theorem dL_law_208 : decode cL_law 208 = .ok (.if_icmp .ge 14, 3) := by decide +kernel
theorem dL_law_211 : decode cL_law 211 = .ok (.aload_n 1, 1) := by decide +kernel
theorem dL_law_212 : decode cL_law 212 = .ok (.iload 14, 2) := by decide +kernel
theorem dL_law_214 : decode cL_law 214 = .ok (.invokestatic 153, 3) := by decide +kernel
theorem dL_law_217 : decode cL_law 217 = .ok (.istore 15, 2) := by decide +kernel
theorem dL_law_219 : decode cL_law 219 = .ok (.goto 417, 3) := by decide +kernel
theorem dL_law_222 : decode cL_law 222 = .ok (.iload 12, 2) := by decide +kernel
theorem dL_law_224 : decode cL_law 224 = .ok (.bipush 11, 2) := by decide +kernel
theorem dL_law_226 : decode cL_law 226 = .ok (.if_icmp .ge 14, 3) := by decide +kernel
theorem dL_law_229 : decode cL_law 229 = .ok (.aload_n 1, 1) := by decide +kernel
theorem dL_law_230 : decode cL_law 230 = .ok (.iload 14, 2) := by decide +kernel
theorem dL_law_232 : decode cL_law 232 = .ok (.invokestatic 155, 3) := by decide +kernel
theorem dL_law_235 : decode cL_law 235 = .ok (.istore 15, 2) := by decide +kernel
theorem dL_law_237 : decode cL_law 237 = .ok (.goto 399, 3) := by decide +kernel
theorem dL_law_240 : decode cL_law 240 = .ok (.iload 12, 2) := by decide +kernel
theorem dL_law_242 : decode cL_law 242 = .ok (.bipush 13, 2) := by decide +kernel
theorem dL_law_244 : decode cL_law 244 = .ok (.if_icmp .ge 42, 3) := by decide +kernel
theorem dL_law_247 : decode cL_law 247 = .ok (.aload_n 1, 1) := by decide +kernel
theorem dL_law_248 : decode cL_law 248 = .ok (.bipush 10, 2) := by decide +kernel
theorem dL_law_250 : decode cL_law 250 = .ok (.iload 13, 2) := by decide +kernel
theorem dL_law_252 : decode cL_law 252 = .ok (.bipush 90, 2) := by decide +kernel
theorem dL_law_254 : decode cL_law 254 = .ok (.irem, 1) := by decide +kernel
theorem dL_law_255 : decode cL_law 255 = .ok (.iadd, 1) := by decide +kernel
theorem dL_law_256 : decode cL_law 256 = .ok (.iload 5, 2) := by decide +kernel
theorem dL_law_258 : decode cL_law 258 = .ok (.ifCond .eq 15, 3) := by decide +kernel
theorem dL_law_261 : decode cL_law 261 = .ok (.iload 13, 2) := by decide +kernel
theorem dL_law_263 : decode cL_law 263 = .ok (.iconst 5, 1) := by decide +kernel
theorem dL_law_264 : decode cL_law 264 = .ok (.irem, 1) := by decide +kernel
theorem dL_law_265 : decode cL_law 265 = .ok (.ifCond .ne 8, 3) := by decide +kernel
theorem dL_law_268 : decode cL_law 268 = .ok (.bipush (-2), 2) := by decide +kernel
theorem dL_law_270 : decode cL_law 270 = .ok (.goto 8, 3) := by decide +kernel
theorem dL_law_273 : decode cL_law 273 = .ok (.iload 13, 2) := by decide +kernel
theorem dL_law_275 : decode cL_law 275 = .ok (.bipush 101, 2) := by decide +kernel
theorem dL_law_277 : decode cL_law 277 = .ok (.irem, 1) := by decide +kernel
theorem dL_law_278 : decode cL_law 278 = .ok (.invokestatic 157, 3) := by decide +kernel
theorem dL_law_281 : decode cL_law 281 = .ok (.istore 15, 2) := by decide +kernel
theorem dL_law_283 : decode cL_law 283 = .ok (.goto 353, 3) := by decide +kernel
theorem dL_law_286 : decode cL_law 286 = .ok (.iload 12, 2) := by decide +kernel
theorem dL_law_288 : decode cL_law 288 = .ok (.bipush 13, 2) := by decide +kernel
theorem dL_law_290 : decode cL_law 290 = .ok (.if_icmp .ne 17, 3) := by decide +kernel
theorem dL_law_293 : decode cL_law 293 = .ok (.aload_n 1, 1) := by decide +kernel
theorem dL_law_294 : decode cL_law 294 = .ok (.iload 13, 2) := by decide +kernel
theorem dL_law_296 : decode cL_law 296 = .ok (.bipush 10, 2) := by decide +kernel
theorem dL_law_298 : decode cL_law 298 = .ok (.irem, 1) := by decide +kernel
theorem dL_law_299 : decode cL_law 299 = .ok (.invokestatic 160, 3) := by decide +kernel
theorem dL_law_302 : decode cL_law 302 = .ok (.istore 15, 2) := by decide +kernel
theorem dL_law_304 : decode cL_law 304 = .ok (.goto 332, 3) := by decide +kernel
theorem dL_law_307 : decode cL_law 307 = .ok (.iload 12, 2) := by decide +kernel
theorem dL_law_309 : decode cL_law 309 = .ok (.bipush 14, 2) := by decide +kernel
theorem dL_law_311 : decode cL_law 311 = .ok (.if_icmp .ne 49, 3) := by decide +kernel
theorem dL_law_314 : decode cL_law 314 = .ok (.iload 13, 2) := by decide +kernel
theorem dL_law_316 : decode cL_law 316 = .ok (.iconst 2, 1) := by decide +kernel
theorem dL_law_317 : decode cL_law 317 = .ok (.irem, 1) := by decide +kernel
theorem dL_law_318 : decode cL_law 318 = .ok (.ifCond .ne 10, 3) := by decide +kernel
theorem dL_law_321 : decode cL_law 321 = .ok (.aload_n 1, 1) := by decide +kernel
theorem dL_law_322 : decode cL_law 322 = .ok (.invokestatic 162, 3) := by decide +kernel
theorem dL_law_325 : decode cL_law 325 = .ok (.goto 15, 3) := by decide +kernel
theorem dL_law_328 : decode cL_law 328 = .ok (.aload_n 1, 1) := by decide +kernel
theorem dL_law_329 : decode cL_law 329 = .ok (.iload 13, 2) := by decide +kernel
theorem dL_law_331 : decode cL_law 331 = .ok (.iconst 2, 1) := by decide +kernel
theorem dL_law_332 : decode cL_law 332 = .ok (.irem, 1) := by decide +kernel
theorem dL_law_333 : decode cL_law 333 = .ok (.iload 13, 2) := by decide +kernel
theorem dL_law_335 : decode cL_law 335 = .ok (.iconst 3, 1) := by decide +kernel
theorem dL_law_336 : decode cL_law 336 = .ok (.irem, 1) := by decide +kernel
theorem dL_law_337 : decode cL_law 337 = .ok (.invokestatic 164, 3) := by decide +kernel
theorem dL_law_340 : decode cL_law 340 = .ok (.istore 15, 2) := by decide +kernel
theorem dL_law_342 : decode cL_law 342 = .ok (.iload 4, 2) := by decide +kernel
theorem dL_law_344 : decode cL_law 344 = .ok (.iload 15, 2) := by decide +kernel
theorem dL_law_346 : decode cL_law 346 = .ok (.ifCond .ge 7, 3) := by decide +kernel
theorem dL_law_349 : decode cL_law 349 = .ok (.iconst 0, 1) := by decide +kernel
theorem dL_law_350 : decode cL_law 350 = .ok (.goto 4, 3) := by decide +kernel
theorem dL_law_353 : decode cL_law 353 = .ok (.iconst 1, 1) := by decide +kernel
theorem dL_law_354 : decode cL_law 354 = .ok (.iadd, 1) := by decide +kernel
theorem dL_law_355 : decode cL_law 355 = .ok (.istore 4, 2) := by decide +kernel
theorem dL_law_357 : decode cL_law 357 = .ok (.goto 279, 3) := by decide +kernel
theorem dL_law_360 : decode cL_law 360 = .ok (.iload 12, 2) := by decide +kernel
theorem dL_law_362 : decode cL_law 362 = .ok (.bipush 15, 2) := by decide +kernel
theorem dL_law_364 : decode cL_law 364 = .ok (.if_icmp .ne 32, 3) := by decide +kernel
theorem dL_law_367 : decode cL_law 367 = .ok (.aload_n 1, 1) := by decide +kernel
theorem dL_law_368 : decode cL_law 368 = .ok (.iload 13, 2) := by decide +kernel
theorem dL_law_370 : decode cL_law 370 = .ok (.bipush 11, 2) := by decide +kernel
theorem dL_law_372 : decode cL_law 372 = .ok (.irem, 1) := by decide +kernel
theorem dL_law_373 : decode cL_law 373 = .ok (.invokestatic 166, 3) := by decide +kernel
theorem dL_law_376 : decode cL_law 376 = .ok (.istore 15, 2) := by decide +kernel
theorem dL_law_378 : decode cL_law 378 = .ok (.iload 4, 2) := by decide +kernel
theorem dL_law_380 : decode cL_law 380 = .ok (.iload 15, 2) := by decide +kernel
theorem dL_law_382 : decode cL_law 382 = .ok (.ifCond .ge 7, 3) := by decide +kernel
theorem dL_law_385 : decode cL_law 385 = .ok (.iconst 0, 1) := by decide +kernel
theorem dL_law_386 : decode cL_law 386 = .ok (.goto 4, 3) := by decide +kernel
theorem dL_law_389 : decode cL_law 389 = .ok (.iconst 1, 1) := by decide +kernel
theorem dL_law_390 : decode cL_law 390 = .ok (.iadd, 1) := by decide +kernel
theorem dL_law_391 : decode cL_law 391 = .ok (.istore 4, 2) := by decide +kernel
theorem dL_law_393 : decode cL_law 393 = .ok (.goto 243, 3) := by decide +kernel
theorem dL_law_396 : decode cL_law 396 = .ok (.iload 12, 2) := by decide +kernel
theorem dL_law_398 : decode cL_law 398 = .ok (.bipush 19, 2) := by decide +kernel
theorem dL_law_400 : decode cL_law 400 = .ok (.if_icmp .ge 64, 3) := by decide +kernel
theorem dL_law_403 : decode cL_law 403 = .ok (.aload_n 1, 1) := by decide +kernel
theorem dL_law_404 : decode cL_law 404 = .ok (.invokestatic 168, 3) := by decide +kernel
theorem dL_law_407 : decode cL_law 407 = .ok (.istore 15, 2) := by decide +kernel
theorem dL_law_409 : decode cL_law 409 = .ok (.iload 15, 2) := by decide +kernel
theorem dL_law_411 : decode cL_law 411 = .ok (.ifCond .ge 7, 3) := by decide +kernel
theorem dL_law_414 : decode cL_law 414 = .ok (.iconst 1, 1) := by decide +kernel
theorem dL_law_415 : decode cL_law 415 = .ok (.goto 4, 3) := by decide +kernel
theorem dL_law_418 : decode cL_law 418 = .ok (.iconst 0, 1) := by decide +kernel
theorem dL_law_419 : decode cL_law 419 = .ok (.iload 4, 2) := by decide +kernel
theorem dL_law_421 : decode cL_law 421 = .ok (.ifCond .ne 7, 3) := by decide +kernel
theorem dL_law_424 : decode cL_law 424 = .ok (.iconst 1, 1) := by decide +kernel
theorem dL_law_425 : decode cL_law 425 = .ok (.goto 4, 3) := by decide +kernel
theorem dL_law_428 : decode cL_law 428 = .ok (.iconst 0, 1) := by decide +kernel
theorem dL_law_429 : decode cL_law 429 = .ok (.if_icmp .eq 10, 3) := by decide +kernel
theorem dL_law_432 : decode cL_law 432 = .ok (.iload 9, 2) := by decide +kernel
theorem dL_law_434 : decode cL_law 434 = .ok (.bipush 80, 2) := by decide +kernel
theorem dL_law_436 : decode cL_law 436 = .ok (.if_icmp .ne 7, 3) := by decide +kernel
theorem dL_law_439 : decode cL_law 439 = .ok (.iconst 1, 1) := by decide +kernel
theorem dL_law_440 : decode cL_law 440 = .ok (.goto 4, 3) := by decide +kernel
theorem dL_law_443 : decode cL_law 443 = .ok (.iconst 0, 1) := by decide +kernel
theorem dL_law_444 : decode cL_law 444 = .ok (.istore 6, 2) := by decide +kernel
theorem dL_law_446 : decode cL_law 446 = .ok (.iload 4, 2) := by decide +kernel
theorem dL_law_448 : decode cL_law 448 = .ok (.iload 15, 2) := by decide +kernel
theorem dL_law_450 : decode cL_law 450 = .ok (.ifCond .ge 7, 3) := by decide +kernel
theorem dL_law_453 : decode cL_law 453 = .ok (.iconst 0, 1) := by decide +kernel
theorem dL_law_454 : decode cL_law 454 = .ok (.goto 4, 3) := by decide +kernel
theorem dL_law_457 : decode cL_law 457 = .ok (.iconst 1, 1) := by decide +kernel
theorem dL_law_458 : decode cL_law 458 = .ok (.isub, 1) := by decide +kernel
theorem dL_law_459 : decode cL_law 459 = .ok (.istore 4, 2) := by decide +kernel
theorem dL_law_461 : decode cL_law 461 = .ok (.goto 175, 3) := by decide +kernel
theorem dL_law_464 : decode cL_law 464 = .ok (.iload 12, 2) := by decide +kernel
theorem dL_law_466 : decode cL_law 466 = .ok (.bipush 19, 2) := by decide +kernel
theorem dL_law_468 : decode cL_law 468 = .ok (.if_icmp .ne 56, 3) := by decide +kernel
theorem dL_law_471 : decode cL_law 471 = .ok (.aload_n 1, 1) := by decide +kernel
theorem dL_law_472 : decode cL_law 472 = .ok (.invokestatic 170, 3) := by decide +kernel
theorem dL_law_475 : decode cL_law 475 = .ok (.istore 15, 2) := by decide +kernel
theorem dL_law_477 : decode cL_law 477 = .ok (.iload 15, 2) := by decide +kernel
theorem dL_law_479 : decode cL_law 479 = .ok (.ifCond .lt 20, 3) := by decide +kernel
theorem dL_law_482 : decode cL_law 482 = .ok (.iload 15, 2) := by decide +kernel
theorem dL_law_484 : decode cL_law 484 = .ok (.iload 10, 2) := by decide +kernel
theorem dL_law_486 : decode cL_law 486 = .ok (.if_icmp .ne 17, 3) := by decide +kernel
theorem dL_law_489 : decode cL_law 489 = .ok (.iload 5, 2) := by decide +kernel
theorem dL_law_491 : decode cL_law 491 = .ok (.ifCond .ne 12, 3) := by decide +kernel
theorem dL_law_494 : decode cL_law 494 = .ok (.iload 4, 2) := by decide +kernel
theorem dL_law_496 : decode cL_law 496 = .ok (.ifCond .ne 7, 3) := by decide +kernel
theorem dL_law_499 : decode cL_law 499 = .ok (.iconst 1, 1) := by decide +kernel
theorem dL_law_500 : decode cL_law 500 = .ok (.goto 4, 3) := by decide +kernel
theorem dL_law_503 : decode cL_law 503 = .ok (.iconst 0, 1) := by decide +kernel
theorem dL_law_504 : decode cL_law 504 = .ok (.istore 6, 2) := by decide +kernel
theorem dL_law_506 : decode cL_law 506 = .ok (.iload 5, 2) := by decide +kernel
theorem dL_law_508 : decode cL_law 508 = .ok (.iload 15, 2) := by decide +kernel
theorem dL_law_510 : decode cL_law 510 = .ok (.ifCond .lt 7, 3) := by decide +kernel
theorem dL_law_513 : decode cL_law 513 = .ok (.iconst 1, 1) := by decide +kernel
theorem dL_law_514 : decode cL_law 514 = .ok (.goto 4, 3) := by decide +kernel
theorem dL_law_517 : decode cL_law 517 = .ok (.iconst 0, 1) := by decide +kernel
theorem dL_law_518 : decode cL_law 518 = .ok (.ior, 1) := by decide +kernel
theorem dL_law_519 : decode cL_law 519 = .ok (.istore 5, 2) := by decide +kernel
theorem dL_law_521 : decode cL_law 521 = .ok (.goto 115, 3) := by decide +kernel
theorem dL_law_524 : decode cL_law 524 = .ok (.iload 12, 2) := by decide +kernel
theorem dL_law_526 : decode cL_law 526 = .ok (.bipush 20, 2) := by decide +kernel
theorem dL_law_528 : decode cL_law 528 = .ok (.if_icmp .ne 58, 3) := by decide +kernel
theorem dL_law_531 : decode cL_law 531 = .ok (.aload_n 1, 1) := by decide +kernel
theorem dL_law_532 : decode cL_law 532 = .ok (.invokestatic 172, 3) := by decide +kernel
theorem dL_law_535 : decode cL_law 535 = .ok (.istore 15, 2) := by decide +kernel
theorem dL_law_537 : decode cL_law 537 = .ok (.iload 15, 2) := by decide +kernel
theorem dL_law_539 : decode cL_law 539 = .ok (.ifCond .lt 22, 3) := by decide +kernel
theorem dL_law_542 : decode cL_law 542 = .ok (.iload 15, 2) := by decide +kernel
theorem dL_law_544 : decode cL_law 544 = .ok (.iload 10, 2) := by decide +kernel
theorem dL_law_546 : decode cL_law 546 = .ok (.iconst 1, 1) := by decide +kernel
theorem dL_law_547 : decode cL_law 547 = .ok (.isub, 1) := by decide +kernel
theorem dL_law_548 : decode cL_law 548 = .ok (.if_icmp .ne 17, 3) := by decide +kernel
theorem dL_law_551 : decode cL_law 551 = .ok (.iload 5, 2) := by decide +kernel
theorem dL_law_553 : decode cL_law 553 = .ok (.ifCond .eq 12, 3) := by decide +kernel
theorem dL_law_556 : decode cL_law 556 = .ok (.iload 4, 2) := by decide +kernel
theorem dL_law_558 : decode cL_law 558 = .ok (.ifCond .ne 7, 3) := by decide +kernel
theorem dL_law_561 : decode cL_law 561 = .ok (.iconst 1, 1) := by decide +kernel
theorem dL_law_562 : decode cL_law 562 = .ok (.goto 4, 3) := by decide +kernel
theorem dL_law_565 : decode cL_law 565 = .ok (.iconst 0, 1) := by decide +kernel
theorem dL_law_566 : decode cL_law 566 = .ok (.istore 6, 2) := by decide +kernel
theorem dL_law_568 : decode cL_law 568 = .ok (.iload 5, 2) := by decide +kernel
theorem dL_law_570 : decode cL_law 570 = .ok (.iload 15, 2) := by decide +kernel
theorem dL_law_572 : decode cL_law 572 = .ok (.ifCond .ge 7, 3) := by decide +kernel
theorem dL_law_575 : decode cL_law 575 = .ok (.iconst 1, 1) := by decide +kernel
theorem dL_law_576 : decode cL_law 576 = .ok (.goto 4, 3) := by decide +kernel
theorem dL_law_579 : decode cL_law 579 = .ok (.iconst 0, 1) := by decide +kernel
theorem dL_law_580 : decode cL_law 580 = .ok (.iand, 1) := by decide +kernel
theorem dL_law_581 : decode cL_law 581 = .ok (.istore 5, 2) := by decide +kernel
theorem dL_law_583 : decode cL_law 583 = .ok (.goto 53, 3) := by decide +kernel
theorem dL_law_586 : decode cL_law 586 = .ok (.iload 12, 2) := by decide +kernel
theorem dL_law_588 : decode cL_law 588 = .ok (.bipush 23, 2) := by decide +kernel
theorem dL_law_590 : decode cL_law 590 = .ok (.if_icmp .ge 33, 3) := by decide +kernel
theorem dL_law_593 : decode cL_law 593 = .ok (.aload_n 1, 1) := by decide +kernel
theorem dL_law_594 : decode cL_law 594 = .ok (.iload 10, 2) := by decide +kernel
theorem dL_law_596 : decode cL_law 596 = .ok (.ifCond .ne 7, 3) := by decide +kernel
theorem dL_law_599 : decode cL_law 599 = .ok (.iconst 0, 1) := by decide +kernel
theorem dL_law_600 : decode cL_law 600 = .ok (.goto 8, 3) := by decide +kernel
theorem dL_law_603 : decode cL_law 603 = .ok (.iload 13, 2) := by decide +kernel
theorem dL_law_605 : decode cL_law 605 = .ok (.iload 10, 2) := by decide +kernel
theorem dL_law_607 : decode cL_law 607 = .ok (.irem, 1) := by decide +kernel
theorem dL_law_608 : decode cL_law 608 = .ok (.iload 14, 2) := by decide +kernel
theorem dL_law_610 : decode cL_law 610 = .ok (.iload 13, 2) := by decide +kernel
theorem dL_law_612 : decode cL_law 612 = .ok (.bipush 50, 2) := by decide +kernel
theorem dL_law_614 : decode cL_law 614 = .ok (.irem, 1) := by decide +kernel
theorem dL_law_615 : decode cL_law 615 = .ok (.invokestatic 174, 3) := by decide +kernel
theorem dL_law_618 : decode cL_law 618 = .ok (.istore 15, 2) := by decide +kernel
theorem dL_law_620 : decode cL_law 620 = .ok (.goto 16, 3) := by decide +kernel
theorem dL_law_623 : decode cL_law 623 = .ok (.aload_n 1, 1) := by decide +kernel
theorem dL_law_624 : decode cL_law 624 = .ok (.iload 13, 2) := by decide +kernel
theorem dL_law_626 : decode cL_law 626 = .ok (.iload 13, 2) := by decide +kernel
theorem dL_law_628 : decode cL_law 628 = .ok (.iconst 2, 1) := by decide +kernel
theorem dL_law_629 : decode cL_law 629 = .ok (.irem, 1) := by decide +kernel
theorem dL_law_630 : decode cL_law 630 = .ok (.iadd, 1) := by decide +kernel
theorem dL_law_631 : decode cL_law 631 = .ok (.invokestatic 177, 3) := by decide +kernel
theorem dL_law_634 : decode cL_law 634 = .ok (.istore 15, 2) := by decide +kernel
theorem dL_law_636 : decode cL_law 636 = .ok (.iinc 3 2, 3) := by decide +kernel
theorem dL_law_639 : decode cL_law 639 = .ok (.iload 6, 2) := by decide +kernel
theorem dL_law_641 : decode cL_law 641 = .ok (.iload 15, 2) := by decide +kernel
theorem dL_law_643 : decode cL_law 643 = .ok (.ifCond .ge 38, 3) := by decide +kernel
theorem dL_law_646 : decode cL_law 646 = .ok (.aload_n 1, 1) := by decide +kernel
theorem dL_law_647 : decode cL_law 647 = .ok (.invokevirtual 140, 3) := by decide +kernel
theorem dL_law_650 : decode cL_law 650 = .ok (.iload 9, 2) := by decide +kernel
theorem dL_law_652 : decode cL_law 652 = .ok (.if_icmp .ne 25, 3) := by decide +kernel
theorem dL_law_655 : decode cL_law 655 = .ok (.aload_n 1, 1) := by decide +kernel
theorem dL_law_656 : decode cL_law 656 = .ok (.invokevirtual 143, 3) := by decide +kernel
theorem dL_law_659 : decode cL_law 659 = .ok (.iload 10, 2) := by decide +kernel
theorem dL_law_661 : decode cL_law 661 = .ok (.if_icmp .ne 16, 3) := by decide +kernel
theorem dL_law_664 : decode cL_law 664 = .ok (.aload_n 1, 1) := by decide +kernel
theorem dL_law_665 : decode cL_law 665 = .ok (.invokestatic 146, 3) := by decide +kernel
theorem dL_law_668 : decode cL_law 668 = .ok (.iload 11, 2) := by decide +kernel
theorem dL_law_670 : decode cL_law 670 = .ok (.if_icmp .ne 7, 3) := by decide +kernel
theorem dL_law_673 : decode cL_law 673 = .ok (.iconst 1, 1) := by decide +kernel
theorem dL_law_674 : decode cL_law 674 = .ok (.goto 53, 3) := by decide +kernel
theorem dL_law_677 : decode cL_law 677 = .ok (.iconst 0, 1) := by decide +kernel
theorem dL_law_678 : decode cL_law 678 = .ok (.goto 49, 3) := by decide +kernel
theorem dL_law_681 : decode cL_law 681 = .ok (.aload_n 1, 1) := by decide +kernel
theorem dL_law_682 : decode cL_law 682 = .ok (.invokevirtual 140, 3) := by decide +kernel
theorem dL_law_685 : decode cL_law 685 = .ok (.iload 9, 2) := by decide +kernel
theorem dL_law_687 : decode cL_law 687 = .ok (.iconst 1, 1) := by decide +kernel
theorem dL_law_688 : decode cL_law 688 = .ok (.iadd, 1) := by decide +kernel
theorem dL_law_689 : decode cL_law 689 = .ok (.if_icmp .ne 37, 3) := by decide +kernel
theorem dL_law_692 : decode cL_law 692 = .ok (.iload 12, 2) := by decide +kernel
theorem dL_law_694 : decode cL_law 694 = .ok (.bipush 19, 2) := by decide +kernel
theorem dL_law_696 : decode cL_law 696 = .ok (.if_icmp .eq 17, 3) := by decide +kernel
theorem dL_law_699 : decode cL_law 699 = .ok (.iload 12, 2) := by decide +kernel
theorem dL_law_701 : decode cL_law 701 = .ok (.bipush 20, 2) := by decide +kernel
theorem dL_law_703 : decode cL_law 703 = .ok (.if_icmp .eq 10, 3) := by decide +kernel
theorem dL_law_706 : decode cL_law 706 = .ok (.iload 15, 2) := by decide +kernel
theorem dL_law_708 : decode cL_law 708 = .ok (.iload 9, 2) := by decide +kernel
theorem dL_law_710 : decode cL_law 710 = .ok (.if_icmp .ne 16, 3) := by decide +kernel
theorem dL_law_713 : decode cL_law 713 = .ok (.aload_n 1, 1) := by decide +kernel
theorem dL_law_714 : decode cL_law 714 = .ok (.invokestatic 146, 3) := by decide +kernel
theorem dL_law_717 : decode cL_law 717 = .ok (.iload 11, 2) := by decide +kernel
theorem dL_law_719 : decode cL_law 719 = .ok (.if_icmp .ne 7, 3) := by decide +kernel
theorem dL_law_722 : decode cL_law 722 = .ok (.iconst 1, 1) := by decide +kernel
theorem dL_law_723 : decode cL_law 723 = .ok (.goto 4, 3) := by decide +kernel
theorem dL_law_726 : decode cL_law 726 = .ok (.iconst 0, 1) := by decide +kernel
theorem dL_law_727 : decode cL_law 727 = .ok (.iand, 1) := by decide +kernel
theorem dL_law_728 : decode cL_law 728 = .ok (.istore 6, 2) := by decide +kernel
theorem dL_law_730 : decode cL_law 730 = .ok (.iload 8, 2) := by decide +kernel
theorem dL_law_732 : decode cL_law 732 = .ok (.bipush 11, 2) := by decide +kernel
theorem dL_law_734 : decode cL_law 734 = .ok (.irem, 1) := by decide +kernel
theorem dL_law_735 : decode cL_law 735 = .ok (.bipush 10, 2) := by decide +kernel
theorem dL_law_737 : decode cL_law 737 = .ok (.if_icmp .ne 47, 3) := by decide +kernel
theorem dL_law_740 : decode cL_law 740 = .ok (.aload_n 1, 1) := by decide +kernel
theorem dL_law_741 : decode cL_law 741 = .ok (.invokevirtual 179, 3) := by decide +kernel
theorem dL_law_744 : decode cL_law 744 = .ok (.istore 16, 2) := by decide +kernel
theorem dL_law_746 : decode cL_law 746 = .ok (.iload 6, 2) := by decide +kernel
theorem dL_law_748 : decode cL_law 748 = .ok (.iload 16, 2) := by decide +kernel
theorem dL_law_750 : decode cL_law 750 = .ok (.ifCond .ge 25, 3) := by decide +kernel
theorem dL_law_753 : decode cL_law 753 = .ok (.aload_n 1, 1) := by decide +kernel
theorem dL_law_754 : decode cL_law 754 = .ok (.iload 5, 2) := by decide +kernel
theorem dL_law_756 : decode cL_law 756 = .ok (.ifCond .ne 8, 3) := by decide +kernel
theorem dL_law_759 : decode cL_law 759 = .ok (.iload 4, 2) := by decide +kernel
theorem dL_law_761 : decode cL_law 761 = .ok (.ifCond .le 7, 3) := by decide +kernel
theorem dL_law_764 : decode cL_law 764 = .ok (.iconst 1, 1) := by decide +kernel
theorem dL_law_765 : decode cL_law 765 = .ok (.goto 4, 3) := by decide +kernel
theorem dL_law_768 : decode cL_law 768 = .ok (.iconst 0, 1) := by decide +kernel
theorem dL_law_769 : decode cL_law 769 = .ok (.invokestatic 182, 3) := by decide +kernel
theorem dL_law_772 : decode cL_law 772 = .ok (.goto 9, 3) := by decide +kernel
theorem dL_law_775 : decode cL_law 775 = .ok (.aload_n 1, 1) := by decide +kernel
theorem dL_law_776 : decode cL_law 776 = .ok (.iload 16, 2) := by decide +kernel
theorem dL_law_778 : decode cL_law 778 = .ok (.invokestatic 186, 3) := by decide +kernel
theorem dL_law_781 : decode cL_law 781 = .ok (.iand, 1) := by decide +kernel
theorem dL_law_782 : decode cL_law 782 = .ok (.istore 6, 2) := by decide +kernel
theorem dL_law_784 : decode cL_law 784 = .ok (.iinc 8 1, 3) := by decide +kernel
theorem dL_law_787 : decode cL_law 787 = .ok (.goto (-750), 3) := by decide +kernel
theorem dL_law_790 : decode cL_law 790 = .ok (.iconst 0, 1) := by decide +kernel
theorem dL_law_791 : decode cL_law 791 = .ok (.istore 8, 2) := by decide +kernel
theorem dL_law_793 : decode cL_law 793 = .ok (.iload 8, 2) := by decide +kernel
theorem dL_law_795 : decode cL_law 795 = .ok (.bipush 90, 2) := by decide +kernel
theorem dL_law_797 : decode cL_law 797 = .ok (.if_icmp .ge 97, 3) := by decide +kernel
theorem dL_law_800 : decode cL_law 800 = .ok (.iload 5, 2) := by decide +kernel
theorem dL_law_802 : decode cL_law 802 = .ok (.iload 4, 2) := by decide +kernel
theorem dL_law_804 : decode cL_law 804 = .ok (.ifCond .le 7, 3) := by decide +kernel
theorem dL_law_807 : decode cL_law 807 = .ok (.iconst 1, 1) := by decide +kernel
theorem dL_law_808 : decode cL_law 808 = .ok (.goto 4, 3) := by decide +kernel
theorem dL_law_811 : decode cL_law 811 = .ok (.iconst 0, 1) := by decide +kernel
theorem dL_law_812 : decode cL_law 812 = .ok (.ior, 1) := by decide +kernel
theorem dL_law_813 : decode cL_law 813 = .ok (.ifCond .eq 81, 3) := by decide +kernel
theorem dL_law_816 : decode cL_law 816 = .ok (.aload_n 1, 1) := by decide +kernel
theorem dL_law_817 : decode cL_law 817 = .ok (.invokevirtual 140, 3) := by decide +kernel
theorem dL_law_820 : decode cL_law 820 = .ok (.bipush 80, 2) := by decide +kernel
theorem dL_law_822 : decode cL_law 822 = .ok (.if_icmp .ge 72, 3) := by decide +kernel
theorem dL_law_825 : decode cL_law 825 = .ok (.iload 4, 2) := by decide +kernel
theorem dL_law_827 : decode cL_law 827 = .ok (.ifCond .le 10, 3) := by decide +kernel
theorem dL_law_830 : decode cL_law 830 = .ok (.aload_n 1, 1) := by decide +kernel
theorem dL_law_831 : decode cL_law 831 = .ok (.invokestatic 168, 3) := by decide +kernel
theorem dL_law_834 : decode cL_law 834 = .ok (.goto 7, 3) := by decide +kernel
theorem dL_law_837 : decode cL_law 837 = .ok (.aload_n 1, 1) := by decide +kernel
theorem dL_law_838 : decode cL_law 838 = .ok (.invokestatic 172, 3) := by decide +kernel
theorem dL_law_841 : decode cL_law 841 = .ok (.istore 9, 2) := by decide +kernel
theorem dL_law_843 : decode cL_law 843 = .ok (.iload 6, 2) := by decide +kernel
theorem dL_law_845 : decode cL_law 845 = .ok (.iload 9, 2) := by decide +kernel
theorem dL_law_847 : decode cL_law 847 = .ok (.ifCond .lt 7, 3) := by decide +kernel
theorem dL_law_850 : decode cL_law 850 = .ok (.iconst 1, 1) := by decide +kernel
theorem dL_law_851 : decode cL_law 851 = .ok (.goto 4, 3) := by decide +kernel
theorem dL_law_854 : decode cL_law 854 = .ok (.iconst 0, 1) := by decide +kernel
theorem dL_law_855 : decode cL_law 855 = .ok (.iand, 1) := by decide +kernel
theorem dL_law_856 : decode cL_law 856 = .ok (.istore 6, 2) := by decide +kernel
theorem dL_law_858 : decode cL_law 858 = .ok (.iload 5, 2) := by decide +kernel
theorem dL_law_860 : decode cL_law 860 = .ok (.iload 4, 2) := by decide +kernel
theorem dL_law_862 : decode cL_law 862 = .ok (.ifCond .le 7, 3) := by decide +kernel
theorem dL_law_865 : decode cL_law 865 = .ok (.iconst 1, 1) := by decide +kernel
theorem dL_law_866 : decode cL_law 866 = .ok (.goto 4, 3) := by decide +kernel
theorem dL_law_869 : decode cL_law 869 = .ok (.iconst 0, 1) := by decide +kernel
theorem dL_law_870 : decode cL_law 870 = .ok (.iand, 1) := by decide +kernel
theorem dL_law_871 : decode cL_law 871 = .ok (.istore 5, 2) := by decide +kernel
theorem dL_law_873 : decode cL_law 873 = .ok (.iload 4, 2) := by decide +kernel
theorem dL_law_875 : decode cL_law 875 = .ok (.iload 4, 2) := by decide +kernel
theorem dL_law_877 : decode cL_law 877 = .ok (.ifCond .le 7, 3) := by decide +kernel
theorem dL_law_880 : decode cL_law 880 = .ok (.iconst 1, 1) := by decide +kernel
theorem dL_law_881 : decode cL_law 881 = .ok (.goto 4, 3) := by decide +kernel
theorem dL_law_884 : decode cL_law 884 = .ok (.iconst 0, 1) := by decide +kernel
theorem dL_law_885 : decode cL_law 885 = .ok (.isub, 1) := by decide +kernel
theorem dL_law_886 : decode cL_law 886 = .ok (.istore 4, 2) := by decide +kernel
theorem dL_law_888 : decode cL_law 888 = .ok (.iinc 8 1, 3) := by decide +kernel
theorem dL_law_891 : decode cL_law 891 = .ok (.goto (-98), 3) := by decide +kernel
theorem dL_law_894 : decode cL_law 894 = .ok (.iconst 0, 1) := by decide +kernel
theorem dL_law_895 : decode cL_law 895 = .ok (.istore 8, 2) := by decide +kernel
theorem dL_law_897 : decode cL_law 897 = .ok (.iload 8, 2) := by decide +kernel
theorem dL_law_899 : decode cL_law 899 = .ok (.iload_n 2, 1) := by decide +kernel
theorem dL_law_900 : decode cL_law 900 = .ok (.if_icmp .ge 55, 3) := by decide +kernel
theorem dL_law_903 : decode cL_law 903 = .ok (.iload 5, 2) := by decide +kernel
theorem dL_law_905 : decode cL_law 905 = .ok (.ifCond .ne 50, 3) := by decide +kernel
theorem dL_law_908 : decode cL_law 908 = .ok (.iload 4, 2) := by decide +kernel
theorem dL_law_910 : decode cL_law 910 = .ok (.ifCond .ne 45, 3) := by decide +kernel
theorem dL_law_913 : decode cL_law 913 = .ok (.aload_n 1, 1) := by decide +kernel
theorem dL_law_914 : decode cL_law 914 = .ok (.invokevirtual 140, 3) := by decide +kernel
theorem dL_law_917 : decode cL_law 917 = .ok (.bipush 80, 2) := by decide +kernel
theorem dL_law_919 : decode cL_law 919 = .ok (.if_icmp .ge 36, 3) := by decide +kernel
theorem dL_law_922 : decode cL_law 922 = .ok (.iload 6, 2) := by decide +kernel
theorem dL_law_924 : decode cL_law 924 = .ok (.aload 7, 2) := by decide +kernel
theorem dL_law_926 : decode cL_law 926 = .ok (.iload 8, 2) := by decide +kernel
theorem dL_law_928 : decode cL_law 928 = .ok (.baload, 1) := by decide +kernel
theorem dL_law_929 : decode cL_law 929 = .ok (.ifCond .ne 12, 3) := by decide +kernel
theorem dL_law_932 : decode cL_law 932 = .ok (.aload_n 1, 1) := by decide +kernel
theorem dL_law_933 : decode cL_law 933 = .ok (.iload 8, 2) := by decide +kernel
theorem dL_law_935 : decode cL_law 935 = .ok (.invokestatic 150, 3) := by decide +kernel
theorem dL_law_938 : decode cL_law 938 = .ok (.ifCond .lt 7, 3) := by decide +kernel
theorem dL_law_941 : decode cL_law 941 = .ok (.iconst 1, 1) := by decide +kernel
theorem dL_law_942 : decode cL_law 942 = .ok (.goto 4, 3) := by decide +kernel
theorem dL_law_945 : decode cL_law 945 = .ok (.iconst 0, 1) := by decide +kernel
theorem dL_law_946 : decode cL_law 946 = .ok (.iand, 1) := by decide +kernel
theorem dL_law_947 : decode cL_law 947 = .ok (.istore 6, 2) := by decide +kernel
theorem dL_law_949 : decode cL_law 949 = .ok (.iinc 8 1, 3) := by decide +kernel
theorem dL_law_952 : decode cL_law 952 = .ok (.goto (-55), 3) := by decide +kernel
theorem dL_law_955 : decode cL_law 955 = .ok (.aload_n 1, 1) := by decide +kernel
theorem dL_law_956 : decode cL_law 956 = .ok (.invokevirtual 179, 3) := by decide +kernel
theorem dL_law_959 : decode cL_law 959 = .ok (.istore 8, 2) := by decide +kernel
theorem dL_law_961 : decode cL_law 961 = .ok (.iload 6, 2) := by decide +kernel
theorem dL_law_963 : decode cL_law 963 = .ok (.iload 8, 2) := by decide +kernel
theorem dL_law_965 : decode cL_law 965 = .ok (.ifCond .ge 25, 3) := by decide +kernel
theorem dL_law_968 : decode cL_law 968 = .ok (.aload_n 1, 1) := by decide +kernel
theorem dL_law_969 : decode cL_law 969 = .ok (.iload 5, 2) := by decide +kernel
theorem dL_law_971 : decode cL_law 971 = .ok (.ifCond .ne 8, 3) := by decide +kernel
theorem dL_law_974 : decode cL_law 974 = .ok (.iload 4, 2) := by decide +kernel
theorem dL_law_976 : decode cL_law 976 = .ok (.ifCond .le 7, 3) := by decide +kernel
theorem dL_law_979 : decode cL_law 979 = .ok (.iconst 1, 1) := by decide +kernel
theorem dL_law_980 : decode cL_law 980 = .ok (.goto 4, 3) := by decide +kernel
theorem dL_law_983 : decode cL_law 983 = .ok (.iconst 0, 1) := by decide +kernel
theorem dL_law_984 : decode cL_law 984 = .ok (.invokestatic 182, 3) := by decide +kernel
theorem dL_law_987 : decode cL_law 987 = .ok (.goto 9, 3) := by decide +kernel
theorem dL_law_990 : decode cL_law 990 = .ok (.aload_n 1, 1) := by decide +kernel
theorem dL_law_991 : decode cL_law 991 = .ok (.iload 8, 2) := by decide +kernel
theorem dL_law_993 : decode cL_law 993 = .ok (.invokestatic 186, 3) := by decide +kernel
theorem dL_law_996 : decode cL_law 996 = .ok (.iand, 1) := by decide +kernel
theorem dL_law_997 : decode cL_law 997 = .ok (.istore 6, 2) := by decide +kernel
theorem dL_law_999 : decode cL_law 999 = .ok (.aload_n 1, 1) := by decide +kernel
theorem dL_law_1000 : decode cL_law 1000 = .ok (.invokestatic 146, 3) := by decide +kernel
theorem dL_law_1003 : decode cL_law 1003 = .ok (.istore 9, 2) := by decide +kernel
theorem dL_law_1005 : decode cL_law 1005 = .ok (.iload 6, 2) := by decide +kernel
theorem dL_law_1007 : decode cL_law 1007 = .ok (.aload_n 1, 1) := by decide +kernel
theorem dL_law_1008 : decode cL_law 1008 = .ok (.invokevirtual 179, 3) := by decide +kernel
theorem dL_law_1011 : decode cL_law 1011 = .ok (.iload 8, 2) := by decide +kernel
theorem dL_law_1013 : decode cL_law 1013 = .ok (.if_icmp .ne 16, 3) := by decide +kernel
theorem dL_law_1016 : decode cL_law 1016 = .ok (.aload_n 1, 1) := by decide +kernel
theorem dL_law_1017 : decode cL_law 1017 = .ok (.invokestatic 146, 3) := by decide +kernel
theorem dL_law_1020 : decode cL_law 1020 = .ok (.iload 9, 2) := by decide +kernel
theorem dL_law_1022 : decode cL_law 1022 = .ok (.if_icmp .ne 7, 3) := by decide +kernel
theorem dL_law_1025 : decode cL_law 1025 = .ok (.iconst 1, 1) := by decide +kernel
theorem dL_law_1026 : decode cL_law 1026 = .ok (.goto 4, 3) := by decide +kernel
theorem dL_law_1029 : decode cL_law 1029 = .ok (.iconst 0, 1) := by decide +kernel
theorem dL_law_1030 : decode cL_law 1030 = .ok (.iand, 1) := by decide +kernel
theorem dL_law_1031 : decode cL_law 1031 = .ok (.istore 6, 2) := by decide +kernel
theorem dL_law_1033 : decode cL_law 1033 = .ok (.iload 6, 2) := by decide +kernel
theorem dL_law_1035 : decode cL_law 1035 = .ok (.ifCond .eq 32, 3) := by decide +kernel
theorem dL_law_1038 : decode cL_law 1038 = .ok (.aload_n 1, 1) := by decide +kernel
theorem dL_law_1039 : decode cL_law 1039 = .ok (.invokevirtual 190, 3) := by decide +kernel
theorem dL_law_1042 : decode cL_law 1042 = .ok (.bipush 80, 2) := by decide +kernel
theorem dL_law_1044 : decode cL_law 1044 = .ok (.if_icmp .gt 23, 3) := by decide +kernel
theorem dL_law_1047 : decode cL_law 1047 = .ok (.aload_n 1, 1) := by decide +kernel
theorem dL_law_1048 : decode cL_law 1048 = .ok (.invokestatic 146, 3) := by decide +kernel
theorem dL_law_1051 : decode cL_law 1051 = .ok (.iload 9, 2) := by decide +kernel
theorem dL_law_1053 : decode cL_law 1053 = .ok (.if_icmp .ne 14, 3) := by decide +kernel
theorem dL_law_1056 : decode cL_law 1056 = .ok (.aload_n 1, 1) := by decide +kernel
theorem dL_law_1057 : decode cL_law 1057 = .ok (.invokevirtual 140, 3) := by decide +kernel
theorem dL_law_1060 : decode cL_law 1060 = .ok (.ifCond .ne 7, 3) := by decide +kernel
theorem dL_law_1063 : decode cL_law 1063 = .ok (.iconst 1, 1) := by decide +kernel
theorem dL_law_1064 : decode cL_law 1064 = .ok (.goto 4, 3) := by decide +kernel
theorem dL_law_1067 : decode cL_law 1067 = .ok (.iconst 0, 1) := by decide +kernel
theorem dL_law_1068 : decode cL_law 1068 = .ok (.ireturn, 1) := by decide +kernel
theorem dL_sum_0 : decode cL_sum 0 = .ok (.bipush 31, 2) := by decide +kernel
theorem dL_sum_2 : decode cL_sum 2 = .ok (.aload_n 0, 1) := by decide +kernel
theorem dL_sum_3 : decode cL_sum 3 = .ok (.invokestatic 193, 3) := by decide +kernel
theorem dL_sum_6 : decode cL_sum 6 = .ok (.imul, 1) := by decide +kernel
theorem dL_sum_7 : decode cL_sum 7 = .ok (.aload_n 0, 1) := by decide +kernel
theorem dL_sum_8 : decode cL_sum 8 = .ok (.invokestatic 195, 3) := by decide +kernel
theorem dL_sum_11 : decode cL_sum 11 = .ok (.iadd, 1) := by decide +kernel
theorem dL_sum_12 : decode cL_sum 12 = .ok (.bipush 7, 2) := by decide +kernel
theorem dL_sum_14 : decode cL_sum 14 = .ok (.aload_n 0, 1) := by decide +kernel
theorem dL_sum_15 : decode cL_sum 15 = .ok (.invokestatic 197, 3) := by decide +kernel
theorem dL_sum_18 : decode cL_sum 18 = .ok (.imul, 1) := by decide +kernel
theorem dL_sum_19 : decode cL_sum 19 = .ok (.iadd, 1) := by decide +kernel
theorem dL_sum_20 : decode cL_sum 20 = .ok (.bipush 13, 2) := by decide +kernel
theorem dL_sum_22 : decode cL_sum 22 = .ok (.aload_n 0, 1) := by decide +kernel
theorem dL_sum_23 : decode cL_sum 23 = .ok (.invokestatic 199, 3) := by decide +kernel
theorem dL_sum_26 : decode cL_sum 26 = .ok (.imul, 1) := by decide +kernel
theorem dL_sum_27 : decode cL_sum 27 = .ok (.iadd, 1) := by decide +kernel
theorem dL_sum_28 : decode cL_sum 28 = .ok (.istore_n 1, 1) := by decide +kernel
theorem dL_sum_29 : decode cL_sum 29 = .ok (.iconst 0, 1) := by decide +kernel
theorem dL_sum_30 : decode cL_sum 30 = .ok (.istore_n 2, 1) := by decide +kernel
theorem dL_sum_31 : decode cL_sum 31 = .ok (.iload_n 2, 1) := by decide +kernel
theorem dL_sum_32 : decode cL_sum 32 = .ok (.aload_n 0, 1) := by decide +kernel
theorem dL_sum_33 : decode cL_sum 33 = .ok (.invokestatic 197, 3) := by decide +kernel
theorem dL_sum_36 : decode cL_sum 36 = .ok (.if_icmp .ge 20, 3) := by decide +kernel
theorem dL_sum_39 : decode cL_sum 39 = .ok (.bipush 31, 2) := by decide +kernel
theorem dL_sum_41 : decode cL_sum 41 = .ok (.iload_n 1, 1) := by decide +kernel
theorem dL_sum_42 : decode cL_sum 42 = .ok (.imul, 1) := by decide +kernel
theorem dL_sum_43 : decode cL_sum 43 = .ok (.aload_n 0, 1) := by decide +kernel
theorem dL_sum_44 : decode cL_sum 44 = .ok (.iload_n 2, 1) := by decide +kernel
theorem dL_sum_45 : decode cL_sum 45 = .ok (.invokestatic 201, 3) := by decide +kernel
theorem dL_sum_48 : decode cL_sum 48 = .ok (.iadd, 1) := by decide +kernel
theorem dL_sum_49 : decode cL_sum 49 = .ok (.istore_n 1, 1) := by decide +kernel
theorem dL_sum_50 : decode cL_sum 50 = .ok (.iinc 2 1, 3) := by decide +kernel
theorem dL_sum_53 : decode cL_sum 53 = .ok (.goto (-22), 3) := by decide +kernel
theorem dL_sum_56 : decode cL_sum 56 = .ok (.iload_n 1, 1) := by decide +kernel
theorem dL_sum_57 : decode cL_sum 57 = .ok (.ireturn, 1) := by decide +kernel
theorem dL_isFault_0 : decode cL_isFault 0 = .ok (.aload_n 0, 1) := by decide +kernel
theorem dL_isFault_1 : decode cL_isFault 1 = .ok (.invokestatic 193, 3) := by decide +kernel
theorem dL_isFault_4 : decode cL_isFault 4 = .ok (.istore_n 2, 1) := by decide +kernel
theorem dL_isFault_5 : decode cL_isFault 5 = .ok (.iload_n 2, 1) := by decide +kernel
theorem dL_isFault_6 : decode cL_isFault 6 = .ok (.bipush 98, 2) := by decide +kernel
theorem dL_isFault_8 : decode cL_isFault 8 = .ok (.if_icmp .ne 7, 3) := by decide +kernel
theorem dL_isFault_11 : decode cL_isFault 11 = .ok (.iconst 1, 1) := by decide +kernel
theorem dL_isFault_12 : decode cL_isFault 12 = .ok (.goto 4, 3) := by decide +kernel
theorem dL_isFault_15 : decode cL_isFault 15 = .ok (.iconst 0, 1) := by decide +kernel
theorem dL_isFault_16 : decode cL_isFault 16 = .ok (.iload_n 1, 1) := by decide +kernel
theorem dL_isFault_17 : decode cL_isFault 17 = .ok (.if_icmp .ne 101, 3) := by decide +kernel
theorem dL_isFault_20 : decode cL_isFault 20 = .ok (.iload_n 1, 1) := by decide +kernel
theorem dL_isFault_21 : decode cL_isFault 21 = .ok (.ifCond .ne 27, 3) := by decide +kernel
theorem dL_isFault_24 : decode cL_isFault 24 = .ok (.iload_n 2, 1) := by decide +kernel
theorem dL_isFault_25 : decode cL_isFault 25 = .ok (.bipush 97, 2) := by decide +kernel
theorem dL_isFault_27 : decode cL_isFault 27 = .ok (.if_icmp .eq 21, 3) := by decide +kernel
theorem dL_isFault_30 : decode cL_isFault 30 = .ok (.iload_n 2, 1) := by decide +kernel
theorem dL_isFault_31 : decode cL_isFault 31 = .ok (.bipush 100, 2) := by decide +kernel
theorem dL_isFault_33 : decode cL_isFault 33 = .ok (.if_icmp .eq 15, 3) := by decide +kernel
theorem dL_isFault_36 : decode cL_isFault 36 = .ok (.iload_n 2, 1) := by decide +kernel
theorem dL_isFault_37 : decode cL_isFault 37 = .ok (.bipush 102, 2) := by decide +kernel
theorem dL_isFault_39 : decode cL_isFault 39 = .ok (.if_icmp .eq 9, 3) := by decide +kernel
theorem dL_isFault_42 : decode cL_isFault 42 = .ok (.iload_n 2, 1) := by decide +kernel
theorem dL_isFault_43 : decode cL_isFault 43 = .ok (.bipush 117, 2) := by decide +kernel
theorem dL_isFault_45 : decode cL_isFault 45 = .ok (.if_icmp .ne 73, 3) := by decide +kernel
theorem dL_isFault_48 : decode cL_isFault 48 = .ok (.aload_n 0, 1) := by decide +kernel
theorem dL_isFault_49 : decode cL_isFault 49 = .ok (.invokestatic 195, 3) := by decide +kernel
theorem dL_isFault_52 : decode cL_isFault 52 = .ok (.ifCond .lt 66, 3) := by decide +kernel
theorem dL_isFault_55 : decode cL_isFault 55 = .ok (.aload_n 0, 1) := by decide +kernel
theorem dL_isFault_56 : decode cL_isFault 56 = .ok (.invokestatic 195, 3) := by decide +kernel
theorem dL_isFault_59 : decode cL_isFault 59 = .ok (.aload_n 0, 1) := by decide +kernel
theorem dL_isFault_60 : decode cL_isFault 60 = .ok (.invokevirtual 140, 3) := by decide +kernel
theorem dL_isFault_63 : decode cL_isFault 63 = .ok (.if_icmp .ge 55, 3) := by decide +kernel
theorem dL_isFault_66 : decode cL_isFault 66 = .ok (.aload_n 0, 1) := by decide +kernel
theorem dL_isFault_67 : decode cL_isFault 67 = .ok (.invokestatic 197, 3) := by decide +kernel
theorem dL_isFault_70 : decode cL_isFault 70 = .ok (.bipush (-75), 2) := by decide +kernel
theorem dL_isFault_72 : decode cL_isFault 72 = .ok (.if_icmp .ne 46, 3) := by decide +kernel
theorem dL_isFault_75 : decode cL_isFault 75 = .ok (.aload_n 0, 1) := by decide +kernel
theorem dL_isFault_76 : decode cL_isFault 76 = .ok (.invokestatic 199, 3) := by decide +kernel
theorem dL_isFault_79 : decode cL_isFault 79 = .ok (.bipush (-75), 2) := by decide +kernel
theorem dL_isFault_81 : decode cL_isFault 81 = .ok (.if_icmp .ne 37, 3) := by decide +kernel
theorem dL_isFault_84 : decode cL_isFault 84 = .ok (.aload_n 0, 1) := by decide +kernel
theorem dL_isFault_85 : decode cL_isFault 85 = .ok (.iconst 0, 1) := by decide +kernel
theorem dL_isFault_86 : decode cL_isFault 86 = .ok (.invokestatic 201, 3) := by decide +kernel
theorem dL_isFault_89 : decode cL_isFault 89 = .ok (.bipush (-75), 2) := by decide +kernel
theorem dL_isFault_91 : decode cL_isFault 91 = .ok (.if_icmp .ne 27, 3) := by decide +kernel
theorem dL_isFault_94 : decode cL_isFault 94 = .ok (.aload_n 0, 1) := by decide +kernel
theorem dL_isFault_95 : decode cL_isFault 95 = .ok (.invokestatic 203, 3) := by decide +kernel
theorem dL_isFault_98 : decode cL_isFault 98 = .ok (.ldc 131, 2) := by decide +kernel
theorem dL_isFault_100 : decode cL_isFault 100 = .ok (.fcmp .l, 1) := by decide +kernel
theorem dL_isFault_101 : decode cL_isFault 101 = .ok (.ifCond .ne 17, 3) := by decide +kernel
theorem dL_isFault_104 : decode cL_isFault 104 = .ok (.aload_n 0, 1) := by decide +kernel
theorem dL_isFault_105 : decode cL_isFault 105 = .ok (.iconst 0, 1) := by decide +kernel
theorem dL_isFault_106 : decode cL_isFault 106 = .ok (.invokestatic 206, 3) := by decide +kernel
theorem dL_isFault_109 : decode cL_isFault 109 = .ok (.bipush (-75), 2) := by decide +kernel
theorem dL_isFault_111 : decode cL_isFault 111 = .ok (.if_icmp .ne 7, 3) := by decide +kernel
theorem dL_isFault_114 : decode cL_isFault 114 = .ok (.iconst 1, 1) := by decide +kernel
theorem dL_isFault_115 : decode cL_isFault 115 = .ok (.goto 4, 3) := by decide +kernel
theorem dL_isFault_118 : decode cL_isFault 118 = .ok (.iconst 0, 1) := by decide +kernel
theorem dL_isFault_119 : decode cL_isFault 119 = .ok (.ireturn, 1) := by decide +kernel
theorem dL_isWhole_0 : decode cL_isWhole 0 = .ok (.iconst 0, 1) := by decide +kernel
theorem dL_isWhole_1 : decode cL_isWhole 1 = .ok (.istore_n 2, 1) := by decide +kernel
theorem dL_isWhole_2 : decode cL_isWhole 2 = .ok (.iconst 0, 1) := by decide +kernel
theorem dL_isWhole_3 : decode cL_isWhole 3 = .ok (.istore_n 3, 1) := by decide +kernel
theorem dL_isWhole_4 : decode cL_isWhole 4 = .ok (.iconst 0, 1) := by decide +kernel
theorem dL_isWhole_5 : decode cL_isWhole 5 = .ok (.istore 4, 2) := by decide +kernel
theorem dL_isWhole_7 : decode cL_isWhole 7 = .ok (.iconst 0, 1) := by decide +kernel
theorem dL_isWhole_8 : decode cL_isWhole 8 = .ok (.istore 5, 2) := by decide +kernel
theorem dL_isWhole_10 : decode cL_isWhole 10 = .ok (.aload_n 0, 1) := by decide +kernel
theorem dL_isWhole_11 : decode cL_isWhole 11 = .ok (.invokestatic 193, 3) := by decide +kernel
theorem dL_isWhole_14 : decode cL_isWhole 14 = .ok (.bipush 110, 2) := by decide +kernel
theorem dL_isWhole_16 : decode cL_isWhole 16 = .ok (.if_icmp .ne 68, 3) := by decide +kernel
theorem dL_isWhole_19 : decode cL_isWhole 19 = .ok (.aload_n 0, 1) := by decide +kernel
theorem dL_isWhole_20 : decode cL_isWhole 20 = .ok (.invokestatic 195, 3) := by decide +kernel
theorem dL_isWhole_23 : decode cL_isWhole 23 = .ok (.bipush (-75), 2) := by decide +kernel
theorem dL_isWhole_25 : decode cL_isWhole 25 = .ok (.if_icmp .ne 59, 3) := by decide +kernel
theorem dL_isWhole_28 : decode cL_isWhole 28 = .ok (.aload_n 0, 1) := by decide +kernel
theorem dL_isWhole_29 : decode cL_isWhole 29 = .ok (.invokestatic 197, 3) := by decide +kernel
theorem dL_isWhole_32 : decode cL_isWhole 32 = .ok (.iload_n 1, 1) := by decide +kernel
theorem dL_isWhole_33 : decode cL_isWhole 33 = .ok (.if_icmp .ne 51, 3) := by decide +kernel
theorem dL_isWhole_36 : decode cL_isWhole 36 = .ok (.aload_n 0, 1) := by decide +kernel
theorem dL_isWhole_37 : decode cL_isWhole 37 = .ok (.invokestatic 199, 3) := by decide +kernel
theorem dL_isWhole_40 : decode cL_isWhole 40 = .ok (.sipush 200, 3) := by decide +kernel
theorem dL_isWhole_43 : decode cL_isWhole 43 = .ok (.if_icmp .gt 41, 3) := by decide +kernel
theorem dL_isWhole_46 : decode cL_isWhole 46 = .ok (.aload_n 0, 1) := by decide +kernel
theorem dL_isWhole_47 : decode cL_isWhole 47 = .ok (.invokestatic 208, 3) := by decide +kernel
theorem dL_isWhole_50 : decode cL_isWhole 50 = .ok (.aload_n 0, 1) := by decide +kernel
theorem dL_isWhole_51 : decode cL_isWhole 51 = .ok (.invokestatic 199, 3) := by decide +kernel
theorem dL_isWhole_54 : decode cL_isWhole 54 = .ok (.i2l, 1) := by decide +kernel
theorem dL_isWhole_55 : decode cL_isWhole 55 = .ok (.lcmp, 1) := by decide +kernel
theorem dL_isWhole_56 : decode cL_isWhole 56 = .ok (.ifCond .ne 28, 3) := by decide +kernel
theorem dL_isWhole_59 : decode cL_isWhole 59 = .ok (.aload_n 0, 1) := by decide +kernel
theorem dL_isWhole_60 : decode cL_isWhole 60 = .ok (.invokestatic 211, 3) := by decide +kernel
theorem dL_isWhole_63 : decode cL_isWhole 63 = .ok (.iconst 1, 1) := by decide +kernel
theorem dL_isWhole_64 : decode cL_isWhole 64 = .ok (.if_icmp .lt 20, 3) := by decide +kernel
theorem dL_isWhole_67 : decode cL_isWhole 67 = .ok (.aload_n 0, 1) := by decide +kernel
theorem dL_isWhole_68 : decode cL_isWhole 68 = .ok (.invokestatic 211, 3) := by decide +kernel
theorem dL_isWhole_71 : decode cL_isWhole 71 = .ok (.aload_n 0, 1) := by decide +kernel
theorem dL_isWhole_72 : decode cL_isWhole 72 = .ok (.invokestatic 213, 3) := by decide +kernel
theorem dL_isWhole_75 : decode cL_isWhole 75 = .ok (.iconst 1, 1) := by decide +kernel
theorem dL_isWhole_76 : decode cL_isWhole 76 = .ok (.iadd, 1) := by decide +kernel
theorem dL_isWhole_77 : decode cL_isWhole 77 = .ok (.if_icmp .gt 7, 3) := by decide +kernel
theorem dL_isWhole_80 : decode cL_isWhole 80 = .ok (.iconst 1, 1) := by decide +kernel
theorem dL_isWhole_81 : decode cL_isWhole 81 = .ok (.goto 4, 3) := by decide +kernel
theorem dL_isWhole_84 : decode cL_isWhole 84 = .ok (.iconst 0, 1) := by decide +kernel
theorem dL_isWhole_85 : decode cL_isWhole 85 = .ok (.istore 6, 2) := by decide +kernel
theorem dL_isWhole_87 : decode cL_isWhole 87 = .ok (.iconst 0, 1) := by decide +kernel
theorem dL_isWhole_88 : decode cL_isWhole 88 = .ok (.istore 7, 2) := by decide +kernel
theorem dL_isWhole_90 : decode cL_isWhole 90 = .ok (.iload 7, 2) := by decide +kernel
theorem dL_isWhole_92 : decode cL_isWhole 92 = .ok (.aload_n 0, 1) := by decide +kernel
theorem dL_isWhole_93 : decode cL_isWhole 93 = .ok (.invokestatic 199, 3) := by decide +kernel
theorem dL_isWhole_96 : decode cL_isWhole 96 = .ok (.if_icmp .ge 446, 3) := by decide +kernel
theorem dL_isWhole_99 : decode cL_isWhole 99 = .ok (.iload 6, 2) := by decide +kernel
theorem dL_isWhole_101 : decode cL_isWhole 101 = .ok (.ifCond .eq 441, 3) := by decide +kernel
theorem dL_isWhole_104 : decode cL_isWhole 104 = .ok (.aload_n 0, 1) := by decide +kernel
theorem dL_isWhole_105 : decode cL_isWhole 105 = .ok (.iload 7, 2) := by decide +kernel
theorem dL_isWhole_107 : decode cL_isWhole 107 = .ok (.invokestatic 215, 3) := by decide +kernel
theorem dL_isWhole_110 : decode cL_isWhole 110 = .ok (.istore 8, 2) := by decide +kernel
theorem dL_isWhole_112 : decode cL_isWhole 112 = .ok (.iload 7, 2) := by decide +kernel
theorem dL_isWhole_114 : decode cL_isWhole 114 = .ok (.iconst 1, 1) := by decide +kernel
theorem dL_isWhole_115 : decode cL_isWhole 115 = .ok (.iadd, 1) := by decide +kernel
theorem dL_isWhole_116 : decode cL_isWhole 116 = .ok (.aload_n 0, 1) := by decide +kernel
theorem dL_isWhole_117 : decode cL_isWhole 117 = .ok (.invokestatic 199, 3) := by decide +kernel
theorem dL_isWhole_120 : decode cL_isWhole 120 = .ok (.if_icmp .ge 14, 3) := by decide +kernel
theorem dL_isWhole_123 : decode cL_isWhole 123 = .ok (.aload_n 0, 1) := by decide +kernel
theorem dL_isWhole_124 : decode cL_isWhole 124 = .ok (.iload 7, 2) := by decide +kernel
theorem dL_isWhole_126 : decode cL_isWhole 126 = .ok (.iconst 1, 1) := by decide +kernel
theorem dL_isWhole_127 : decode cL_isWhole 127 = .ok (.iadd, 1) := by decide +kernel
theorem dL_isWhole_128 : decode cL_isWhole 128 = .ok (.invokestatic 217, 3) := by decide +kernel
theorem dL_isWhole_131 : decode cL_isWhole 131 = .ok (.goto 4, 3) := by decide +kernel
theorem dL_isWhole_134 : decode cL_isWhole 134 = .ok (.iload_n 1, 1) := by decide +kernel
theorem dL_isWhole_135 : decode cL_isWhole 135 = .ok (.istore 9, 2) := by decide +kernel
theorem dL_isWhole_137 : decode cL_isWhole 137 = .ok (.aload_n 0, 1) := by decide +kernel
theorem dL_isWhole_138 : decode cL_isWhole 138 = .ok (.iload 7, 2) := by decide +kernel
theorem dL_isWhole_140 : decode cL_isWhole 140 = .ok (.invokestatic 219, 3) := by decide +kernel
theorem dL_isWhole_143 : decode cL_isWhole 143 = .ok (.istore 10, 2) := by decide +kernel
theorem dL_isWhole_145 : decode cL_isWhole 145 = .ok (.iload 10, 2) := by decide +kernel
theorem dL_isWhole_147 : decode cL_isWhole 147 = .ok (.ifCond .ge 7, 3) := by decide +kernel
theorem dL_isWhole_150 : decode cL_isWhole 150 = .ok (.iconst 0, 1) := by decide +kernel
theorem dL_isWhole_151 : decode cL_isWhole 151 = .ok (.goto 9, 3) := by decide +kernel
theorem dL_isWhole_154 : decode cL_isWhole 154 = .ok (.aload_n 0, 1) := by decide +kernel
theorem dL_isWhole_155 : decode cL_isWhole 155 = .ok (.iload 10, 2) := by decide +kernel
theorem dL_isWhole_157 : decode cL_isWhole 157 = .ok (.invokestatic 217, 3) := by decide +kernel
theorem dL_isWhole_160 : decode cL_isWhole 160 = .ok (.istore 11, 2) := by decide +kernel
theorem dL_isWhole_162 : decode cL_isWhole 162 = .ok (.iload 8, 2) := by decide +kernel
theorem dL_isWhole_164 : decode cL_isWhole 164 = .ok (.bipush 106, 2) := by decide +kernel
theorem dL_isWhole_166 : decode cL_isWhole 166 = .ok (.if_icmp .eq 17, 3) := by decide +kernel
theorem dL_isWhole_169 : decode cL_isWhole 169 = .ok (.iload 8, 2) := by decide +kernel
theorem dL_isWhole_171 : decode cL_isWhole 171 = .ok (.bipush 74, 2) := by decide +kernel
theorem dL_isWhole_173 : decode cL_isWhole 173 = .ok (.if_icmp .eq 10, 3) := by decide +kernel
theorem dL_isWhole_176 : decode cL_isWhole 176 = .ok (.iload 8, 2) := by decide +kernel
theorem dL_isWhole_178 : decode cL_isWhole 178 = .ok (.bipush 97, 2) := by decide +kernel
theorem dL_isWhole_180 : decode cL_isWhole 180 = .ok (.if_icmp .ne 7, 3) := by decide +kernel
theorem dL_isWhole_183 : decode cL_isWhole 183 = .ok (.iconst 1, 1) := by decide +kernel
theorem dL_isWhole_184 : decode cL_isWhole 184 = .ok (.goto 4, 3) := by decide +kernel
theorem dL_isWhole_187 : decode cL_isWhole 187 = .ok (.iconst 0, 1) := by decide +kernel
theorem dL_isWhole_188 : decode cL_isWhole 188 = .ok (.istore 12, 2) := by decide +kernel
theorem dL_isWhole_190 : decode cL_isWhole 190 = .ok (.aload_n 0, 1) := by decide +kernel
theorem dL_isWhole_191 : decode cL_isWhole 191 = .ok (.iload 7, 2) := by decide +kernel
theorem dL_isWhole_193 : decode cL_isWhole 193 = .ok (.invokestatic 217, 3) := by decide +kernel
theorem dL_isWhole_196 : decode cL_isWhole 196 = .ok (.iload_n 2, 1) := by decide +kernel
theorem dL_isWhole_197 : decode cL_isWhole 197 = .ok (.if_icmp .ne 61, 3) := by decide +kernel
theorem dL_isWhole_200 : decode cL_isWhole 200 = .ok (.aload_n 0, 1) := by decide +kernel
theorem dL_isWhole_201 : decode cL_isWhole 201 = .ok (.iload 7, 2) := by decide +kernel
theorem dL_isWhole_203 : decode cL_isWhole 203 = .ok (.invokestatic 221, 3) := by decide +kernel
theorem dL_isWhole_206 : decode cL_isWhole 206 = .ok (.iload_n 2, 1) := by decide +kernel
theorem dL_isWhole_207 : decode cL_isWhole 207 = .ok (.if_icmp .ne 51, 3) := by decide +kernel
theorem dL_isWhole_210 : decode cL_isWhole 210 = .ok (.aload_n 0, 1) := by decide +kernel
theorem dL_isWhole_211 : decode cL_isWhole 211 = .ok (.iload 7, 2) := by decide +kernel
theorem dL_isWhole_213 : decode cL_isWhole 213 = .ok (.invokestatic 223, 3) := by decide +kernel
theorem dL_isWhole_216 : decode cL_isWhole 216 = .ok (.ifCond .lt 42, 3) := by decide +kernel
theorem dL_isWhole_219 : decode cL_isWhole 219 = .ok (.aload_n 0, 1) := by decide +kernel
theorem dL_isWhole_220 : decode cL_isWhole 220 = .ok (.iload 7, 2) := by decide +kernel
theorem dL_isWhole_222 : decode cL_isWhole 222 = .ok (.invokestatic 225, 3) := by decide +kernel
theorem dL_isWhole_225 : decode cL_isWhole 225 = .ok (.ifCond .lt 33, 3) := by decide +kernel
theorem dL_isWhole_228 : decode cL_isWhole 228 = .ok (.iload 12, 2) := by decide +kernel
theorem dL_isWhole_230 : decode cL_isWhole 230 = .ok (.ifCond .eq 17, 3) := by decide +kernel
theorem dL_isWhole_233 : decode cL_isWhole 233 = .ok (.aload_n 0, 1) := by decide +kernel
theorem dL_isWhole_234 : decode cL_isWhole 234 = .ok (.iload 10, 2) := by decide +kernel
theorem dL_isWhole_236 : decode cL_isWhole 236 = .ok (.invokestatic 215, 3) := by decide +kernel
theorem dL_isWhole_239 : decode cL_isWhole 239 = .ok (.bipush 108, 2) := by decide +kernel
theorem dL_isWhole_241 : decode cL_isWhole 241 = .ok (.if_icmp .ne 17, 3) := by decide +kernel
theorem dL_isWhole_244 : decode cL_isWhole 244 = .ok (.goto 10, 3) := by decide +kernel
theorem dL_isWhole_247 : decode cL_isWhole 247 = .ok (.iload 10, 2) := by decide +kernel
theorem dL_isWhole_249 : decode cL_isWhole 249 = .ok (.bipush (-76), 2) := by decide +kernel
theorem dL_isWhole_251 : decode cL_isWhole 251 = .ok (.if_icmp .ne 7, 3) := by decide +kernel
theorem dL_isWhole_254 : decode cL_isWhole 254 = .ok (.iconst 1, 1) := by decide +kernel
theorem dL_isWhole_255 : decode cL_isWhole 255 = .ok (.goto 4, 3) := by decide +kernel
theorem dL_isWhole_258 : decode cL_isWhole 258 = .ok (.iconst 0, 1) := by decide +kernel
theorem dL_isWhole_259 : decode cL_isWhole 259 = .ok (.istore 6, 2) := by decide +kernel
theorem dL_isWhole_261 : decode cL_isWhole 261 = .ok (.iload 6, 2) := by decide +kernel
theorem dL_isWhole_263 : decode cL_isWhole 263 = .ok (.iload 8, 2) := by decide +kernel
theorem dL_isWhole_265 : decode cL_isWhole 265 = .ok (.bipush 108, 2) := by decide +kernel
theorem dL_isWhole_267 : decode cL_isWhole 267 = .ok (.if_icmp .ne 17, 3) := by decide +kernel
theorem dL_isWhole_270 : decode cL_isWhole 270 = .ok (.iload 9, 2) := by decide +kernel
theorem dL_isWhole_272 : decode cL_isWhole 272 = .ok (.iload_n 2, 1) := by decide +kernel
theorem dL_isWhole_273 : decode cL_isWhole 273 = .ok (.if_icmp .ne 7, 3) := by decide +kernel
theorem dL_isWhole_276 : decode cL_isWhole 276 = .ok (.iconst 1, 1) := by decide +kernel
theorem dL_isWhole_277 : decode cL_isWhole 277 = .ok (.goto 90, 3) := by decide +kernel
theorem dL_isWhole_280 : decode cL_isWhole 280 = .ok (.iconst 0, 1) := by decide +kernel
theorem dL_isWhole_281 : decode cL_isWhole 281 = .ok (.goto 86, 3) := by decide +kernel
theorem dL_isWhole_284 : decode cL_isWhole 284 = .ok (.iload 8, 2) := by decide +kernel
theorem dL_isWhole_286 : decode cL_isWhole 286 = .ok (.bipush 74, 2) := by decide +kernel
theorem dL_isWhole_288 : decode cL_isWhole 288 = .ok (.if_icmp .ne 42, 3) := by decide +kernel
theorem dL_isWhole_291 : decode cL_isWhole 291 = .ok (.iload 9, 2) := by decide +kernel
theorem dL_isWhole_293 : decode cL_isWhole 293 = .ok (.iload_n 2, 1) := by decide +kernel
theorem dL_isWhole_294 : decode cL_isWhole 294 = .ok (.iconst 2, 1) := by decide +kernel
theorem dL_isWhole_295 : decode cL_isWhole 295 = .ok (.iadd, 1) := by decide +kernel
theorem dL_isWhole_296 : decode cL_isWhole 296 = .ok (.if_icmp .ne 30, 3) := by decide +kernel
theorem dL_isWhole_299 : decode cL_isWhole 299 = .ok (.aload_n 0, 1) := by decide +kernel
theorem dL_isWhole_300 : decode cL_isWhole 300 = .ok (.iload_n 2, 1) := by decide +kernel
theorem dL_isWhole_301 : decode cL_isWhole 301 = .ok (.invokestatic 201, 3) := by decide +kernel
theorem dL_isWhole_304 : decode cL_isWhole 304 = .ok (.sipush 20000, 3) := by decide +kernel
theorem dL_isWhole_307 : decode cL_isWhole 307 = .ok (.if_icmp .ne 19, 3) := by decide +kernel
theorem dL_isWhole_310 : decode cL_isWhole 310 = .ok (.aload_n 0, 1) := by decide +kernel
theorem dL_isWhole_311 : decode cL_isWhole 311 = .ok (.iload_n 2, 1) := by decide +kernel
theorem dL_isWhole_312 : decode cL_isWhole 312 = .ok (.iconst 1, 1) := by decide +kernel
theorem dL_isWhole_313 : decode cL_isWhole 313 = .ok (.iadd, 1) := by decide +kernel
theorem dL_isWhole_314 : decode cL_isWhole 314 = .ok (.invokestatic 201, 3) := by decide +kernel
theorem dL_isWhole_317 : decode cL_isWhole 317 = .ok (.iload 11, 2) := by decide +kernel
theorem dL_isWhole_319 : decode cL_isWhole 319 = .ok (.if_icmp .ne 7, 3) := by decide +kernel
theorem dL_isWhole_322 : decode cL_isWhole 322 = .ok (.iconst 1, 1) := by decide +kernel
theorem dL_isWhole_323 : decode cL_isWhole 323 = .ok (.goto 44, 3) := by decide +kernel
theorem dL_isWhole_326 : decode cL_isWhole 326 = .ok (.iconst 0, 1) := by decide +kernel
theorem dL_isWhole_327 : decode cL_isWhole 327 = .ok (.goto 40, 3) := by decide +kernel
theorem dL_isWhole_330 : decode cL_isWhole 330 = .ok (.iload 8, 2) := by decide +kernel
theorem dL_isWhole_332 : decode cL_isWhole 332 = .ok (.bipush 103, 2) := by decide +kernel
theorem dL_isWhole_334 : decode cL_isWhole 334 = .ok (.if_icmp .ne 20, 3) := by decide +kernel
theorem dL_isWhole_337 : decode cL_isWhole 337 = .ok (.iload 9, 2) := by decide +kernel
theorem dL_isWhole_339 : decode cL_isWhole 339 = .ok (.iload_n 2, 1) := by decide +kernel
theorem dL_isWhole_340 : decode cL_isWhole 340 = .ok (.isub, 1) := by decide +kernel
theorem dL_isWhole_341 : decode cL_isWhole 341 = .ok (.bipush 8, 2) := by decide +kernel
theorem dL_isWhole_343 : decode cL_isWhole 343 = .ok (.if_icmp .ge 7, 3) := by decide +kernel
theorem dL_isWhole_346 : decode cL_isWhole 346 = .ok (.iconst 1, 1) := by decide +kernel
theorem dL_isWhole_347 : decode cL_isWhole 347 = .ok (.goto 20, 3) := by decide +kernel
theorem dL_isWhole_350 : decode cL_isWhole 350 = .ok (.iconst 0, 1) := by decide +kernel
theorem dL_isWhole_351 : decode cL_isWhole 351 = .ok (.goto 16, 3) := by decide +kernel
theorem dL_isWhole_354 : decode cL_isWhole 354 = .ok (.iload 9, 2) := by decide +kernel
theorem dL_isWhole_356 : decode cL_isWhole 356 = .ok (.iload_n 2, 1) := by decide +kernel
theorem dL_isWhole_357 : decode cL_isWhole 357 = .ok (.iconst 1, 1) := by decide +kernel
theorem dL_isWhole_358 : decode cL_isWhole 358 = .ok (.iadd, 1) := by decide +kernel
theorem dL_isWhole_359 : decode cL_isWhole 359 = .ok (.if_icmp .ne 7, 3) := by decide +kernel
theorem dL_isWhole_362 : decode cL_isWhole 362 = .ok (.iconst 1, 1) := by decide +kernel
theorem dL_isWhole_363 : decode cL_isWhole 363 = .ok (.goto 4, 3) := by decide +kernel
theorem dL_isWhole_366 : decode cL_isWhole 366 = .ok (.iconst 0, 1) := by decide +kernel
theorem dL_isWhole_367 : decode cL_isWhole 367 = .ok (.iand, 1) := by decide +kernel
theorem dL_isWhole_368 : decode cL_isWhole 368 = .ok (.istore 6, 2) := by decide +kernel
theorem dL_isWhole_370 : decode cL_isWhole 370 = .ok (.iload 6, 2) := by decide +kernel
theorem dL_isWhole_372 : decode cL_isWhole 372 = .ok (.iload 8, 2) := by decide +kernel
theorem dL_isWhole_374 : decode cL_isWhole 374 = .ok (.bipush 106, 2) := by decide +kernel
theorem dL_isWhole_376 : decode cL_isWhole 376 = .ok (.if_icmp .ne 41, 3) := by decide +kernel
theorem dL_isWhole_379 : decode cL_isWhole 379 = .ok (.iload 11, 2) := by decide +kernel
theorem dL_isWhole_381 : decode cL_isWhole 381 = .ok (.iload_n 2, 1) := by decide +kernel
theorem dL_isWhole_382 : decode cL_isWhole 382 = .ok (.isub, 1) := by decide +kernel
theorem dL_isWhole_383 : decode cL_isWhole 383 = .ok (.iconst 1, 1) := by decide +kernel
theorem dL_isWhole_384 : decode cL_isWhole 384 = .ok (.isub, 1) := by decide +kernel
theorem dL_isWhole_385 : decode cL_isWhole 385 = .ok (.bipush (-8), 2) := by decide +kernel
theorem dL_isWhole_387 : decode cL_isWhole 387 = .ok (.if_icmp .lt 34, 3) := by decide +kernel
theorem dL_isWhole_390 : decode cL_isWhole 390 = .ok (.iload 11, 2) := by decide +kernel
theorem dL_isWhole_392 : decode cL_isWhole 392 = .ok (.iload_n 2, 1) := by decide +kernel
theorem dL_isWhole_393 : decode cL_isWhole 393 = .ok (.isub, 1) := by decide +kernel
theorem dL_isWhole_394 : decode cL_isWhole 394 = .ok (.iconst 1, 1) := by decide +kernel
theorem dL_isWhole_395 : decode cL_isWhole 395 = .ok (.isub, 1) := by decide +kernel
theorem dL_isWhole_396 : decode cL_isWhole 396 = .ok (.bipush 7, 2) := by decide +kernel
theorem dL_isWhole_398 : decode cL_isWhole 398 = .ok (.if_icmp .gt 23, 3) := by decide +kernel
theorem dL_isWhole_401 : decode cL_isWhole 401 = .ok (.aload_n 0, 1) := by decide +kernel
theorem dL_isWhole_402 : decode cL_isWhole 402 = .ok (.iload_n 2, 1) := by decide +kernel
theorem dL_isWhole_403 : decode cL_isWhole 403 = .ok (.invokestatic 201, 3) := by decide +kernel
theorem dL_isWhole_406 : decode cL_isWhole 406 = .ok (.sipush 10007, 3) := by decide +kernel
theorem dL_isWhole_409 : decode cL_isWhole 409 = .ok (.iload 11, 2) := by decide +kernel
theorem dL_isWhole_411 : decode cL_isWhole 411 = .ok (.iadd, 1) := by decide +kernel
theorem dL_isWhole_412 : decode cL_isWhole 412 = .ok (.iload_n 2, 1) := by decide +kernel
theorem dL_isWhole_413 : decode cL_isWhole 413 = .ok (.isub, 1) := by decide +kernel
theorem dL_isWhole_414 : decode cL_isWhole 414 = .ok (.if_icmp .ne 7, 3) := by decide +kernel
theorem dL_isWhole_417 : decode cL_isWhole 417 = .ok (.iconst 1, 1) := by decide +kernel
theorem dL_isWhole_418 : decode cL_isWhole 418 = .ok (.goto 4, 3) := by decide +kernel
theorem dL_isWhole_421 : decode cL_isWhole 421 = .ok (.iconst 0, 1) := by decide +kernel
theorem dL_isWhole_422 : decode cL_isWhole 422 = .ok (.iand, 1) := by decide +kernel
theorem dL_isWhole_423 : decode cL_isWhole 423 = .ok (.istore 6, 2) := by decide +kernel
theorem dL_isWhole_425 : decode cL_isWhole 425 = .ok (.iload 6, 2) := by decide +kernel
theorem dL_isWhole_427 : decode cL_isWhole 427 = .ok (.iload 8, 2) := by decide +kernel
theorem dL_isWhole_429 : decode cL_isWhole 429 = .ok (.bipush 97, 2) := by decide +kernel
theorem dL_isWhole_431 : decode cL_isWhole 431 = .ok (.if_icmp .ne 13, 3) := by decide +kernel
theorem dL_isWhole_434 : decode cL_isWhole 434 = .ok (.aload_n 0, 1) := by decide +kernel
theorem dL_isWhole_435 : decode cL_isWhole 435 = .ok (.iload_n 2, 1) := by decide +kernel
theorem dL_isWhole_436 : decode cL_isWhole 436 = .ok (.invokestatic 201, 3) := by decide +kernel
theorem dL_isWhole_439 : decode cL_isWhole 439 = .ok (.iload 11, 2) := by decide +kernel
theorem dL_isWhole_441 : decode cL_isWhole 441 = .ok (.if_icmp .ne 7, 3) := by decide +kernel
theorem dL_isWhole_444 : decode cL_isWhole 444 = .ok (.iconst 1, 1) := by decide +kernel
theorem dL_isWhole_445 : decode cL_isWhole 445 = .ok (.goto 4, 3) := by decide +kernel
theorem dL_isWhole_448 : decode cL_isWhole 448 = .ok (.iconst 0, 1) := by decide +kernel
theorem dL_isWhole_449 : decode cL_isWhole 449 = .ok (.iand, 1) := by decide +kernel
theorem dL_isWhole_450 : decode cL_isWhole 450 = .ok (.istore 6, 2) := by decide +kernel
theorem dL_isWhole_452 : decode cL_isWhole 452 = .ok (.iload_n 2, 1) := by decide +kernel
theorem dL_isWhole_453 : decode cL_isWhole 453 = .ok (.istore 13, 2) := by decide +kernel
theorem dL_isWhole_455 : decode cL_isWhole 455 = .ok (.iload 8, 2) := by decide +kernel
theorem dL_isWhole_457 : decode cL_isWhole 457 = .ok (.bipush 103, 2) := by decide +kernel
theorem dL_isWhole_459 : decode cL_isWhole 459 = .ok (.if_icmp .ne 35, 3) := by decide +kernel
theorem dL_isWhole_462 : decode cL_isWhole 462 = .ok (.iload 13, 2) := by decide +kernel
theorem dL_isWhole_464 : decode cL_isWhole 464 = .ok (.iload 9, 2) := by decide +kernel
theorem dL_isWhole_466 : decode cL_isWhole 466 = .ok (.if_icmp .ge 28, 3) := by decide +kernel
theorem dL_isWhole_469 : decode cL_isWhole 469 = .ok (.iload 6, 2) := by decide +kernel
theorem dL_isWhole_471 : decode cL_isWhole 471 = .ok (.aload_n 0, 1) := by decide +kernel
theorem dL_isWhole_472 : decode cL_isWhole 472 = .ok (.iload 13, 2) := by decide +kernel
theorem dL_isWhole_474 : decode cL_isWhole 474 = .ok (.invokestatic 201, 3) := by decide +kernel
theorem dL_isWhole_477 : decode cL_isWhole 477 = .ok (.ifCond .ne 7, 3) := by decide +kernel
theorem dL_isWhole_480 : decode cL_isWhole 480 = .ok (.iconst 1, 1) := by decide +kernel
theorem dL_isWhole_481 : decode cL_isWhole 481 = .ok (.goto 4, 3) := by decide +kernel
theorem dL_isWhole_484 : decode cL_isWhole 484 = .ok (.iconst 0, 1) := by decide +kernel
theorem dL_isWhole_485 : decode cL_isWhole 485 = .ok (.iand, 1) := by decide +kernel
theorem dL_isWhole_486 : decode cL_isWhole 486 = .ok (.istore 6, 2) := by decide +kernel
theorem dL_isWhole_488 : decode cL_isWhole 488 = .ok (.iinc 13 1, 3) := by decide +kernel
theorem dL_isWhole_491 : decode cL_isWhole 491 = .ok (.goto (-36), 3) := by decide +kernel
theorem dL_isWhole_494 : decode cL_isWhole 494 = .ok (.iload_n 3, 1) := by decide +kernel
theorem dL_isWhole_495 : decode cL_isWhole 495 = .ok (.iload 8, 2) := by decide +kernel
theorem dL_isWhole_497 : decode cL_isWhole 497 = .ok (.bipush 106, 2) := by decide +kernel
theorem dL_isWhole_499 : decode cL_isWhole 499 = .ok (.if_icmp .eq 10, 3) := by decide +kernel
theorem dL_isWhole_502 : decode cL_isWhole 502 = .ok (.iload 8, 2) := by decide +kernel
theorem dL_isWhole_504 : decode cL_isWhole 504 = .ok (.bipush 74, 2) := by decide +kernel
theorem dL_isWhole_506 : decode cL_isWhole 506 = .ok (.if_icmp .ne 7, 3) := by decide +kernel
theorem dL_isWhole_509 : decode cL_isWhole 509 = .ok (.iconst 1, 1) := by decide +kernel
theorem dL_isWhole_510 : decode cL_isWhole 510 = .ok (.goto 4, 3) := by decide +kernel
theorem dL_isWhole_513 : decode cL_isWhole 513 = .ok (.iconst 0, 1) := by decide +kernel
theorem dL_isWhole_514 : decode cL_isWhole 514 = .ok (.iadd, 1) := by decide +kernel
theorem dL_isWhole_515 : decode cL_isWhole 515 = .ok (.istore_n 3, 1) := by decide +kernel
theorem dL_isWhole_516 : decode cL_isWhole 516 = .ok (.iload 4, 2) := by decide +kernel
theorem dL_isWhole_518 : decode cL_isWhole 518 = .ok (.iload 8, 2) := by decide +kernel
theorem dL_isWhole_520 : decode cL_isWhole 520 = .ok (.bipush 74, 2) := by decide +kernel
theorem dL_isWhole_522 : decode cL_isWhole 522 = .ok (.if_icmp .ne 7, 3) := by decide +kernel
theorem dL_isWhole_525 : decode cL_isWhole 525 = .ok (.iconst 1, 1) := by decide +kernel
theorem dL_isWhole_526 : decode cL_isWhole 526 = .ok (.goto 4, 3) := by decide +kernel
theorem dL_isWhole_529 : decode cL_isWhole 529 = .ok (.iconst 0, 1) := by decide +kernel
theorem dL_isWhole_530 : decode cL_isWhole 530 = .ok (.iadd, 1) := by decide +kernel
theorem dL_isWhole_531 : decode cL_isWhole 531 = .ok (.istore 4, 2) := by decide +kernel
theorem dL_isWhole_533 : decode cL_isWhole 533 = .ok (.iload 9, 2) := by decide +kernel
theorem dL_isWhole_535 : decode cL_isWhole 535 = .ok (.istore_n 2, 1) := by decide +kernel
theorem dL_isWhole_536 : decode cL_isWhole 536 = .ok (.iinc 7 1, 3) := by decide +kernel
theorem dL_isWhole_539 : decode cL_isWhole 539 = .ok (.goto (-449), 3) := by decide +kernel
theorem dL_isWhole_542 : decode cL_isWhole 542 = .ok (.iconst 0, 1) := by decide +kernel
theorem dL_isWhole_543 : decode cL_isWhole 543 = .ok (.istore 7, 2) := by decide +kernel
theorem dL_isWhole_545 : decode cL_isWhole 545 = .ok (.iload 7, 2) := by decide +kernel
theorem dL_isWhole_547 : decode cL_isWhole 547 = .ok (.iload_n 1, 1) := by decide +kernel
theorem dL_isWhole_548 : decode cL_isWhole 548 = .ok (.if_icmp .ge 67, 3) := by decide +kernel
theorem dL_isWhole_551 : decode cL_isWhole 551 = .ok (.iload 6, 2) := by decide +kernel
theorem dL_isWhole_553 : decode cL_isWhole 553 = .ok (.ifCond .eq 62, 3) := by decide +kernel
theorem dL_isWhole_556 : decode cL_isWhole 556 = .ok (.aload_n 0, 1) := by decide +kernel
theorem dL_isWhole_557 : decode cL_isWhole 557 = .ok (.iload 7, 2) := by decide +kernel
theorem dL_isWhole_559 : decode cL_isWhole 559 = .ok (.sipush 1000, 3) := by decide +kernel
theorem dL_isWhole_562 : decode cL_isWhole 562 = .ok (.invokestatic 227, 3) := by decide +kernel
theorem dL_isWhole_565 : decode cL_isWhole 565 = .ok (.aload_n 0, 1) := by decide +kernel
theorem dL_isWhole_566 : decode cL_isWhole 566 = .ok (.iload 7, 2) := by decide +kernel
theorem dL_isWhole_568 : decode cL_isWhole 568 = .ok (.invokestatic 201, 3) := by decide +kernel
theorem dL_isWhole_571 : decode cL_isWhole 571 = .ok (.isub, 1) := by decide +kernel
theorem dL_isWhole_572 : decode cL_isWhole 572 = .ok (.istore 8, 2) := by decide +kernel
theorem dL_isWhole_574 : decode cL_isWhole 574 = .ok (.iload 8, 2) := by decide +kernel
theorem dL_isWhole_576 : decode cL_isWhole 576 = .ok (.ifCond .eq 11, 3) := by decide +kernel
theorem dL_isWhole_579 : decode cL_isWhole 579 = .ok (.iload 8, 2) := by decide +kernel
theorem dL_isWhole_581 : decode cL_isWhole 581 = .ok (.sipush 1000, 3) := by decide +kernel
theorem dL_isWhole_584 : decode cL_isWhole 584 = .ok (.if_icmp .ne 7, 3) := by decide +kernel
theorem dL_isWhole_587 : decode cL_isWhole 587 = .ok (.iconst 1, 1) := by decide +kernel
theorem dL_isWhole_588 : decode cL_isWhole 588 = .ok (.goto 4, 3) := by decide +kernel
theorem dL_isWhole_591 : decode cL_isWhole 591 = .ok (.iconst 0, 1) := by decide +kernel
theorem dL_isWhole_592 : decode cL_isWhole 592 = .ok (.istore 6, 2) := by decide +kernel
theorem dL_isWhole_594 : decode cL_isWhole 594 = .ok (.iload 5, 2) := by decide +kernel
theorem dL_isWhole_596 : decode cL_isWhole 596 = .ok (.iload 8, 2) := by decide +kernel
theorem dL_isWhole_598 : decode cL_isWhole 598 = .ok (.ifCond .ne 7, 3) := by decide +kernel
theorem dL_isWhole_601 : decode cL_isWhole 601 = .ok (.iconst 0, 1) := by decide +kernel
theorem dL_isWhole_602 : decode cL_isWhole 602 = .ok (.goto 4, 3) := by decide +kernel
theorem dL_isWhole_605 : decode cL_isWhole 605 = .ok (.iconst 1, 1) := by decide +kernel
theorem dL_isWhole_606 : decode cL_isWhole 606 = .ok (.iadd, 1) := by decide +kernel
theorem dL_isWhole_607 : decode cL_isWhole 607 = .ok (.istore 5, 2) := by decide +kernel
theorem dL_isWhole_609 : decode cL_isWhole 609 = .ok (.iinc 7 1, 3) := by decide +kernel
theorem dL_isWhole_612 : decode cL_isWhole 612 = .ok (.goto (-67), 3) := by decide +kernel
theorem dL_isWhole_615 : decode cL_isWhole 615 = .ok (.iconst 0, 1) := by decide +kernel
theorem dL_isWhole_616 : decode cL_isWhole 616 = .ok (.istore 7, 2) := by decide +kernel
theorem dL_isWhole_618 : decode cL_isWhole 618 = .ok (.iload 7, 2) := by decide +kernel
theorem dL_isWhole_620 : decode cL_isWhole 620 = .ok (.bipush 20, 2) := by decide +kernel
theorem dL_isWhole_622 : decode cL_isWhole 622 = .ok (.if_icmp .ge 47, 3) := by decide +kernel
theorem dL_isWhole_625 : decode cL_isWhole 625 = .ok (.iload 6, 2) := by decide +kernel
theorem dL_isWhole_627 : decode cL_isWhole 627 = .ok (.ifCond .eq 42, 3) := by decide +kernel
theorem dL_isWhole_630 : decode cL_isWhole 630 = .ok (.aload_n 0, 1) := by decide +kernel
theorem dL_isWhole_631 : decode cL_isWhole 631 = .ok (.iload 7, 2) := by decide +kernel
theorem dL_isWhole_633 : decode cL_isWhole 633 = .ok (.invokestatic 206, 3) := by decide +kernel
theorem dL_isWhole_636 : decode cL_isWhole 636 = .ok (.istore 8, 2) := by decide +kernel
theorem dL_isWhole_638 : decode cL_isWhole 638 = .ok (.iload 8, 2) := by decide +kernel
theorem dL_isWhole_640 : decode cL_isWhole 640 = .ok (.bipush (-75), 2) := by decide +kernel
theorem dL_isWhole_642 : decode cL_isWhole 642 = .ok (.if_icmp .eq 14, 3) := by decide +kernel
theorem dL_isWhole_645 : decode cL_isWhole 645 = .ok (.iload 8, 2) := by decide +kernel
theorem dL_isWhole_647 : decode cL_isWhole 647 = .ok (.ifCond .lt 13, 3) := by decide +kernel
theorem dL_isWhole_650 : decode cL_isWhole 650 = .ok (.iload 8, 2) := by decide +kernel
theorem dL_isWhole_652 : decode cL_isWhole 652 = .ok (.iload_n 1, 1) := by decide +kernel
theorem dL_isWhole_653 : decode cL_isWhole 653 = .ok (.if_icmp .gt 7, 3) := by decide +kernel
theorem dL_isWhole_656 : decode cL_isWhole 656 = .ok (.iconst 1, 1) := by decide +kernel
theorem dL_isWhole_657 : decode cL_isWhole 657 = .ok (.goto 4, 3) := by decide +kernel
theorem dL_isWhole_660 : decode cL_isWhole 660 = .ok (.iconst 0, 1) := by decide +kernel
theorem dL_isWhole_661 : decode cL_isWhole 661 = .ok (.istore 6, 2) := by decide +kernel
theorem dL_isWhole_663 : decode cL_isWhole 663 = .ok (.iinc 7 1, 3) := by decide +kernel
theorem dL_isWhole_666 : decode cL_isWhole 666 = .ok (.goto (-48), 3) := by decide +kernel
theorem dL_isWhole_669 : decode cL_isWhole 669 = .ok (.iload 6, 2) := by decide +kernel
theorem dL_isWhole_671 : decode cL_isWhole 671 = .ok (.ifCond .eq 50, 3) := by decide +kernel
theorem dL_isWhole_674 : decode cL_isWhole 674 = .ok (.iload 5, 2) := by decide +kernel
theorem dL_isWhole_676 : decode cL_isWhole 676 = .ok (.aload_n 0, 1) := by decide +kernel
theorem dL_isWhole_677 : decode cL_isWhole 677 = .ok (.invokestatic 229, 3) := by decide +kernel
theorem dL_isWhole_680 : decode cL_isWhole 680 = .ok (.if_icmp .ne 41, 3) := by decide +kernel
theorem dL_isWhole_683 : decode cL_isWhole 683 = .ok (.iload 4, 2) := by decide +kernel
theorem dL_isWhole_685 : decode cL_isWhole 685 = .ok (.aload_n 0, 1) := by decide +kernel
theorem dL_isWhole_686 : decode cL_isWhole 686 = .ok (.invokestatic 213, 3) := by decide +kernel
theorem dL_isWhole_689 : decode cL_isWhole 689 = .ok (.if_icmp .ne 32, 3) := by decide +kernel
theorem dL_isWhole_692 : decode cL_isWhole 692 = .ok (.aload_n 0, 1) := by decide +kernel
theorem dL_isWhole_693 : decode cL_isWhole 693 = .ok (.invokestatic 203, 3) := by decide +kernel
theorem dL_isWhole_696 : decode cL_isWhole 696 = .ok (.iload_n 3, 1) := by decide +kernel
theorem dL_isWhole_697 : decode cL_isWhole 697 = .ok (.ifCond .ne 8, 3) := by decide +kernel
theorem dL_isWhole_700 : decode cL_isWhole 700 = .ok (.ldc 134, 2) := by decide +kernel
theorem dL_isWhole_702 : decode cL_isWhole 702 = .ok (.goto 11, 3) := by decide +kernel
theorem dL_isWhole_705 : decode cL_isWhole 705 = .ok (.iload_n 3, 1) := by decide +kernel
theorem dL_isWhole_706 : decode cL_isWhole 706 = .ok (.iload 4, 2) := by decide +kernel
theorem dL_isWhole_708 : decode cL_isWhole 708 = .ok (.isub, 1) := by decide +kernel
theorem dL_isWhole_709 : decode cL_isWhole 709 = .ok (.i2f, 1) := by decide +kernel
theorem dL_isWhole_710 : decode cL_isWhole 710 = .ok (.iload_n 3, 1) := by decide +kernel
theorem dL_isWhole_711 : decode cL_isWhole 711 = .ok (.i2f, 1) := by decide +kernel
theorem dL_isWhole_712 : decode cL_isWhole 712 = .ok (.fdiv, 1) := by decide +kernel
theorem dL_isWhole_713 : decode cL_isWhole 713 = .ok (.fcmp .l, 1) := by decide +kernel
theorem dL_isWhole_714 : decode cL_isWhole 714 = .ok (.ifCond .ne 7, 3) := by decide +kernel
theorem dL_isWhole_717 : decode cL_isWhole 717 = .ok (.iconst 1, 1) := by decide +kernel
theorem dL_isWhole_718 : decode cL_isWhole 718 = .ok (.goto 4, 3) := by decide +kernel
theorem dL_isWhole_721 : decode cL_isWhole 721 = .ok (.iconst 0, 1) := by decide +kernel
theorem dL_isWhole_722 : decode cL_isWhole 722 = .ok (.ireturn, 1) := by decide +kernel
