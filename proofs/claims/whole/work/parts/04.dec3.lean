theorem dX7_countsMacro_178 : decode cX7_countsMacro 178 = .ok (.irem, 1) := by decide +kernel
theorem dX7_countsMacro_179 : decode cX7_countsMacro 179 = .ok (.istore 8, 2) := by decide +kernel
theorem dX7_countsMacro_181 : decode cX7_countsMacro 181 = .ok (.iinc 6 1, 3) := by decide +kernel
theorem dX7_countsMacro_184 : decode cX7_countsMacro 184 = .ok (.goto (-31), 3) := by decide +kernel
theorem dX7_countsMacro_187 : decode cX7_countsMacro 187 = .ok (.iload 6, 2) := by decide +kernel
theorem dX7_countsMacro_189 : decode cX7_countsMacro 189 = .ok (.sipush 4096, 3) := by decide +kernel
theorem dX7_countsMacro_192 : decode cX7_countsMacro 192 = .ok (.if_icmp .ge 21, 3) := by decide +kernel
theorem dX7_countsMacro_195 : decode cX7_countsMacro 195 = .ok (.aload_n 0, 1) := by decide +kernel
theorem dX7_countsMacro_196 : decode cX7_countsMacro 196 = .ok (.getfield 76, 3) := by decide +kernel
theorem dX7_countsMacro_199 : decode cX7_countsMacro 199 = .ok (.iload 8, 2) := by decide +kernel
theorem dX7_countsMacro_201 : decode cX7_countsMacro 201 = .ok (.iload 4, 2) := by decide +kernel
theorem dX7_countsMacro_203 : decode cX7_countsMacro 203 = .ok (.iastore, 1) := by decide +kernel
theorem dX7_countsMacro_204 : decode cX7_countsMacro 204 = .ok (.aload_n 0, 1) := by decide +kernel
theorem dX7_countsMacro_205 : decode cX7_countsMacro 205 = .ok (.getfield 79, 3) := by decide +kernel
theorem dX7_countsMacro_208 : decode cX7_countsMacro 208 = .ok (.iload 8, 2) := by decide +kernel
theorem dX7_countsMacro_210 : decode cX7_countsMacro 210 = .ok (.iload 7, 2) := by decide +kernel
theorem dX7_countsMacro_212 : decode cX7_countsMacro 212 = .ok (.iastore, 1) := by decide +kernel
theorem dX7_countsMacro_213 : decode cX7_countsMacro 213 = .ok (.iload 7, 2) := by decide +kernel
theorem dX7_countsMacro_215 : decode cX7_countsMacro 215 = .ok (.ireturn, 1) := by decide +kernel
theorem dX7_itemsByCounting_0 : decode cX7_itemsByCounting 0 = .ok (.aload_n 0, 1) := by decide +kernel
theorem dX7_itemsByCounting_1 : decode cX7_itemsByCounting 1 = .ok (.getfield 111, 3) := by decide +kernel
theorem dX7_itemsByCounting_4 : decode cX7_itemsByCounting 4 = .ok (.ifCond .gt 11, 3) := by decide +kernel
theorem dX7_itemsByCounting_7 : decode cX7_itemsByCounting 7 = .ok (.aload_n 0, 1) := by decide +kernel
theorem dX7_itemsByCounting_8 : decode cX7_itemsByCounting 8 = .ok (.getfield 7, 3) := by decide +kernel
theorem dX7_itemsByCounting_11 : decode cX7_itemsByCounting 11 = .ok (.iconst (-1), 1) := by decide +kernel
theorem dX7_itemsByCounting_12 : decode cX7_itemsByCounting 12 = .ok (.if_icmp .eq 10, 3) := by decide +kernel
theorem dX7_itemsByCounting_15 : decode cX7_itemsByCounting 15 = .ok (.aload_n 0, 1) := by decide +kernel
theorem dX7_itemsByCounting_16 : decode cX7_itemsByCounting 16 = .ok (.iconst 1, 1) := by decide +kernel
theorem dX7_itemsByCounting_17 : decode cX7_itemsByCounting 17 = .ok (.invokevirtual 92, 3) := by decide +kernel
theorem dX7_itemsByCounting_20 : decode cX7_itemsByCounting 20 = .ok (.i2l, 1) := by decide +kernel
theorem dX7_itemsByCounting_21 : decode cX7_itemsByCounting 21 = .ok (.lreturn, 1) := by decide +kernel
theorem dX7_itemsByCounting_22 : decode cX7_itemsByCounting 22 = .ok (.aload_n 0, 1) := by decide +kernel
theorem dX7_itemsByCounting_23 : decode cX7_itemsByCounting 23 = .ok (.iconst 0, 1) := by decide +kernel
theorem dX7_itemsByCounting_24 : decode cX7_itemsByCounting 24 = .ok (.putfield 199, 3) := by decide +kernel
theorem dX7_itemsByCounting_27 : decode cX7_itemsByCounting 27 = .ok (.iconst 0, 1) := by decide +kernel
theorem dX7_itemsByCounting_28 : decode cX7_itemsByCounting 28 = .ok (.istore_n 1, 1) := by decide +kernel
theorem dX7_itemsByCounting_29 : decode cX7_itemsByCounting 29 = .ok (.iload_n 1, 1) := by decide +kernel
theorem dX7_itemsByCounting_30 : decode cX7_itemsByCounting 30 = .ok (.sipush 4096, 3) := by decide +kernel
theorem dX7_itemsByCounting_33 : decode cX7_itemsByCounting 33 = .ok (.if_icmp .ge 16, 3) := by decide +kernel
theorem dX7_itemsByCounting_36 : decode cX7_itemsByCounting 36 = .ok (.aload_n 0, 1) := by decide +kernel
theorem dX7_itemsByCounting_37 : decode cX7_itemsByCounting 37 = .ok (.getfield 76, 3) := by decide +kernel
theorem dX7_itemsByCounting_40 : decode cX7_itemsByCounting 40 = .ok (.iload_n 1, 1) := by decide +kernel
theorem dX7_itemsByCounting_41 : decode cX7_itemsByCounting 41 = .ok (.iconst 0, 1) := by decide +kernel
theorem dX7_itemsByCounting_42 : decode cX7_itemsByCounting 42 = .ok (.iastore, 1) := by decide +kernel
theorem dX7_itemsByCounting_43 : decode cX7_itemsByCounting 43 = .ok (.iinc 1 1, 3) := by decide +kernel
theorem dX7_itemsByCounting_46 : decode cX7_itemsByCounting 46 = .ok (.goto (-17), 3) := by decide +kernel
theorem dX7_itemsByCounting_49 : decode cX7_itemsByCounting 49 = .ok (.aload_n 0, 1) := by decide +kernel
theorem dX7_itemsByCounting_50 : decode cX7_itemsByCounting 50 = .ok (.iconst 0, 1) := by decide +kernel
theorem dX7_itemsByCounting_51 : decode cX7_itemsByCounting 51 = .ok (.aload_n 0, 1) := by decide +kernel
theorem dX7_itemsByCounting_52 : decode cX7_itemsByCounting 52 = .ok (.getfield 89, 3) := by decide +kernel
theorem dX7_itemsByCounting_55 : decode cX7_itemsByCounting 55 = .ok (.iconst 0, 1) := by decide +kernel
theorem dX7_itemsByCounting_56 : decode cX7_itemsByCounting 56 = .ok (.iconst 0, 1) := by decide +kernel
theorem dX7_itemsByCounting_57 : decode cX7_itemsByCounting 57 = .ok (.invokevirtual 202, 3) := by decide +kernel
theorem dX7_itemsByCounting_60 : decode cX7_itemsByCounting 60 = .ok (.istore_n 1, 1) := by decide +kernel
theorem dX7_itemsByCounting_61 : decode cX7_itemsByCounting 61 = .ok (.aload_n 0, 1) := by decide +kernel
theorem dX7_itemsByCounting_62 : decode cX7_itemsByCounting 62 = .ok (.aload_n 0, 1) := by decide +kernel
theorem dX7_itemsByCounting_63 : decode cX7_itemsByCounting 63 = .ok (.getfield 199, 3) := by decide +kernel
theorem dX7_itemsByCounting_66 : decode cX7_itemsByCounting 66 = .ok (.ifCond .eq 7, 3) := by decide +kernel
theorem dX7_itemsByCounting_69 : decode cX7_itemsByCounting 69 = .ok (.iconst 2, 1) := by decide +kernel
theorem dX7_itemsByCounting_70 : decode cX7_itemsByCounting 70 = .ok (.goto 4, 3) := by decide +kernel
theorem dX7_itemsByCounting_73 : decode cX7_itemsByCounting 73 = .ok (.iconst 0, 1) := by decide +kernel
theorem dX7_itemsByCounting_74 : decode cX7_itemsByCounting 74 = .ok (.putfield 82, 3) := by decide +kernel
theorem dX7_itemsByCounting_77 : decode cX7_itemsByCounting 77 = .ok (.aload_n 0, 1) := by decide +kernel
theorem dX7_itemsByCounting_78 : decode cX7_itemsByCounting 78 = .ok (.getfield 199, 3) := by decide +kernel
theorem dX7_itemsByCounting_81 : decode cX7_itemsByCounting 81 = .ok (.ifCond .eq 7, 3) := by decide +kernel
theorem dX7_itemsByCounting_84 : decode cX7_itemsByCounting 84 = .ok (.lconst 0, 1) := by decide +kernel
theorem dX7_itemsByCounting_85 : decode cX7_itemsByCounting 85 = .ok (.goto 5, 3) := by decide +kernel
theorem dX7_itemsByCounting_88 : decode cX7_itemsByCounting 88 = .ok (.iload_n 1, 1) := by decide +kernel
theorem dX7_itemsByCounting_89 : decode cX7_itemsByCounting 89 = .ok (.i2l, 1) := by decide +kernel
theorem dX7_itemsByCounting_90 : decode cX7_itemsByCounting 90 = .ok (.lreturn, 1) := by decide +kernel
theorem dX7_isThere_0 : decode cX7_isThere 0 = .ok (.aload_n 0, 1) := by decide +kernel
theorem dX7_isThere_1 : decode cX7_isThere 1 = .ok (.aload_n 0, 1) := by decide +kernel
theorem dX7_isThere_2 : decode cX7_isThere 2 = .ok (.getfield 175, 3) := by decide +kernel
theorem dX7_isThere_5 : decode cX7_isThere 5 = .ok (.ifCond .eq 16, 3) := by decide +kernel
theorem dX7_isThere_8 : decode cX7_isThere 8 = .ok (.aload_n 0, 1) := by decide +kernel
theorem dX7_isThere_9 : decode cX7_isThere 9 = .ok (.getfield 38, 3) := by decide +kernel
theorem dX7_isThere_12 : decode cX7_isThere 12 = .ok (.bipush 110, 2) := by decide +kernel
theorem dX7_isThere_14 : decode cX7_isThere 14 = .ok (.if_icmp .ne 7, 3) := by decide +kernel
theorem dX7_isThere_17 : decode cX7_isThere 17 = .ok (.iconst 0, 1) := by decide +kernel
theorem dX7_isThere_18 : decode cX7_isThere 18 = .ok (.goto 4, 3) := by decide +kernel
theorem dX7_isThere_21 : decode cX7_isThere 21 = .ok (.iconst 1, 1) := by decide +kernel
theorem dX7_isThere_22 : decode cX7_isThere 22 = .ok (.putfield 82, 3) := by decide +kernel
theorem dX7_isThere_25 : decode cX7_isThere 25 = .ok (.aload_n 0, 1) := by decide +kernel
theorem dX7_isThere_26 : decode cX7_isThere 26 = .ok (.getfield 82, 3) := by decide +kernel
theorem dX7_isThere_29 : decode cX7_isThere 29 = .ok (.ifCond .ne 7, 3) := by decide +kernel
theorem dX7_isThere_32 : decode cX7_isThere 32 = .ok (.iconst 1, 1) := by decide +kernel
theorem dX7_isThere_33 : decode cX7_isThere 33 = .ok (.goto 4, 3) := by decide +kernel
theorem dX7_isThere_36 : decode cX7_isThere 36 = .ok (.iconst 0, 1) := by decide +kernel
theorem dX7_isThere_37 : decode cX7_isThere 37 = .ok (.ireturn, 1) := by decide +kernel
theorem dX7_words_0 : decode cX7_words 0 = .ok (.aload_n 0, 1) := by decide +kernel
theorem dX7_words_1 : decode cX7_words 1 = .ok (.invokevirtual 209, 3) := by decide +kernel
theorem dX7_words_4 : decode cX7_words 4 = .ok (.ifCond .eq 10, 3) := by decide +kernel
theorem dX7_words_7 : decode cX7_words 7 = .ok (.aload_n 0, 1) := by decide +kernel
theorem dX7_words_8 : decode cX7_words 8 = .ok (.getfield 162, 3) := by decide +kernel
theorem dX7_words_11 : decode cX7_words 11 = .ok (.goto 4, 3) := by decide +kernel
theorem dX7_words_14 : decode cX7_words 14 = .ok (.iconst 0, 1) := by decide +kernel
theorem dX7_words_15 : decode cX7_words 15 = .ok (.ireturn, 1) := by decide +kernel
theorem dX7_isWord_0 : decode cX7_isWord 0 = .ok (.aload_n 0, 1) := by decide +kernel
theorem dX7_isWord_1 : decode cX7_isWord 1 = .ok (.invokevirtual 209, 3) := by decide +kernel
theorem dX7_isWord_4 : decode cX7_isWord 4 = .ok (.ifCond .ne 5, 3) := by decide +kernel
theorem dX7_isWord_7 : decode cX7_isWord 7 = .ok (.iconst 0, 1) := by decide +kernel
theorem dX7_isWord_8 : decode cX7_isWord 8 = .ok (.ireturn, 1) := by decide +kernel
theorem dX7_isWord_9 : decode cX7_isWord 9 = .ok (.aload_n 0, 1) := by decide +kernel
theorem dX7_isWord_10 : decode cX7_isWord 10 = .ok (.iload_n 1, 1) := by decide +kernel
theorem dX7_isWord_11 : decode cX7_isWord 11 = .ok (.iconst 0, 1) := by decide +kernel
theorem dX7_isWord_12 : decode cX7_isWord 12 = .ok (.aload_n 0, 1) := by decide +kernel
theorem dX7_isWord_13 : decode cX7_isWord 13 = .ok (.getfield 162, 3) := by decide +kernel
theorem dX7_isWord_16 : decode cX7_isWord 16 = .ok (.iconst 1, 1) := by decide +kernel
theorem dX7_isWord_17 : decode cX7_isWord 17 = .ok (.isub, 1) := by decide +kernel
theorem dX7_isWord_18 : decode cX7_isWord 18 = .ok (.invokestatic 85, 3) := by decide +kernel
theorem dX7_isWord_21 : decode cX7_isWord 21 = .ok (.ifCond .eq 7, 3) := by decide +kernel
theorem dX7_isWord_24 : decode cX7_isWord 24 = .ok (.iconst 0, 1) := by decide +kernel
theorem dX7_isWord_25 : decode cX7_isWord 25 = .ok (.goto 4, 3) := by decide +kernel
theorem dX7_isWord_28 : decode cX7_isWord 28 = .ok (.iconst 2, 1) := by decide +kernel
theorem dX7_isWord_29 : decode cX7_isWord 29 = .ok (.putfield 82, 3) := by decide +kernel
theorem dX7_isWord_32 : decode cX7_isWord 32 = .ok (.aload_n 0, 1) := by decide +kernel
theorem dX7_isWord_33 : decode cX7_isWord 33 = .ok (.getfield 82, 3) := by decide +kernel
theorem dX7_isWord_36 : decode cX7_isWord 36 = .ok (.ifCond .ne 7, 3) := by decide +kernel
theorem dX7_isWord_39 : decode cX7_isWord 39 = .ok (.iconst 1, 1) := by decide +kernel
theorem dX7_isWord_40 : decode cX7_isWord 40 = .ok (.goto 4, 3) := by decide +kernel
theorem dX7_isWord_43 : decode cX7_isWord 43 = .ok (.iconst 0, 1) := by decide +kernel
theorem dX7_isWord_44 : decode cX7_isWord 44 = .ok (.ireturn, 1) := by decide +kernel
theorem dX7_wordAt_0 : decode cX7_wordAt 0 = .ok (.aload_n 0, 1) := by decide +kernel
theorem dX7_wordAt_1 : decode cX7_wordAt 1 = .ok (.iload_n 1, 1) := by decide +kernel
theorem dX7_wordAt_2 : decode cX7_wordAt 2 = .ok (.invokevirtual 212, 3) := by decide +kernel
theorem dX7_wordAt_5 : decode cX7_wordAt 5 = .ok (.ifCond .eq 12, 3) := by decide +kernel
theorem dX7_wordAt_8 : decode cX7_wordAt 8 = .ok (.aload_n 0, 1) := by decide +kernel
theorem dX7_wordAt_9 : decode cX7_wordAt 9 = .ok (.getfield 70, 3) := by decide +kernel
theorem dX7_wordAt_12 : decode cX7_wordAt 12 = .ok (.iload_n 1, 1) := by decide +kernel
theorem dX7_wordAt_13 : decode cX7_wordAt 13 = .ok (.iaload, 1) := by decide +kernel
theorem dX7_wordAt_14 : decode cX7_wordAt 14 = .ok (.goto 4, 3) := by decide +kernel
theorem dX7_wordAt_17 : decode cX7_wordAt 17 = .ok (.iconst 0, 1) := by decide +kernel
theorem dX7_wordAt_18 : decode cX7_wordAt 18 = .ok (.ireturn, 1) := by decide +kernel
theorem dX7_relocations_0 : decode cX7_relocations 0 = .ok (.aload_n 0, 1) := by decide +kernel
theorem dX7_relocations_1 : decode cX7_relocations 1 = .ok (.invokevirtual 209, 3) := by decide +kernel
theorem dX7_relocations_4 : decode cX7_relocations 4 = .ok (.ifCond .ne 5, 3) := by decide +kernel
theorem dX7_relocations_7 : decode cX7_relocations 7 = .ok (.iconst 0, 1) := by decide +kernel
theorem dX7_relocations_8 : decode cX7_relocations 8 = .ok (.ireturn, 1) := by decide +kernel
theorem dX7_relocations_9 : decode cX7_relocations 9 = .ok (.iconst 0, 1) := by decide +kernel
theorem dX7_relocations_10 : decode cX7_relocations 10 = .ok (.istore_n 1, 1) := by decide +kernel
theorem dX7_relocations_11 : decode cX7_relocations 11 = .ok (.iconst 0, 1) := by decide +kernel
theorem dX7_relocations_12 : decode cX7_relocations 12 = .ok (.istore_n 2, 1) := by decide +kernel
theorem dX7_relocations_13 : decode cX7_relocations 13 = .ok (.iload_n 2, 1) := by decide +kernel
theorem dX7_relocations_14 : decode cX7_relocations 14 = .ok (.aload_n 0, 1) := by decide +kernel
theorem dX7_relocations_15 : decode cX7_relocations 15 = .ok (.getfield 162, 3) := by decide +kernel
theorem dX7_relocations_18 : decode cX7_relocations 18 = .ok (.if_icmp .ge 26, 3) := by decide +kernel
theorem dX7_relocations_21 : decode cX7_relocations 21 = .ok (.iload_n 1, 1) := by decide +kernel
theorem dX7_relocations_22 : decode cX7_relocations 22 = .ok (.aload_n 0, 1) := by decide +kernel
theorem dX7_relocations_23 : decode cX7_relocations 23 = .ok (.getfield 73, 3) := by decide +kernel
theorem dX7_relocations_26 : decode cX7_relocations 26 = .ok (.iload_n 2, 1) := by decide +kernel
theorem dX7_relocations_27 : decode cX7_relocations 27 = .ok (.baload, 1) := by decide +kernel
theorem dX7_relocations_28 : decode cX7_relocations 28 = .ok (.ifCond .eq 7, 3) := by decide +kernel
theorem dX7_relocations_31 : decode cX7_relocations 31 = .ok (.iconst 1, 1) := by decide +kernel
theorem dX7_relocations_32 : decode cX7_relocations 32 = .ok (.goto 4, 3) := by decide +kernel
theorem dX7_relocations_35 : decode cX7_relocations 35 = .ok (.iconst 0, 1) := by decide +kernel
theorem dX7_relocations_36 : decode cX7_relocations 36 = .ok (.iadd, 1) := by decide +kernel
theorem dX7_relocations_37 : decode cX7_relocations 37 = .ok (.istore_n 1, 1) := by decide +kernel
theorem dX7_relocations_38 : decode cX7_relocations 38 = .ok (.iinc 2 1, 3) := by decide +kernel
theorem dX7_relocations_41 : decode cX7_relocations 41 = .ok (.goto (-28), 3) := by decide +kernel
theorem dX7_relocations_44 : decode cX7_relocations 44 = .ok (.iload_n 1, 1) := by decide +kernel
theorem dX7_relocations_45 : decode cX7_relocations 45 = .ok (.ireturn, 1) := by decide +kernel
theorem dX7_loadedWord_0 : decode cX7_loadedWord 0 = .ok (.aload_n 0, 1) := by decide +kernel
theorem dX7_loadedWord_1 : decode cX7_loadedWord 1 = .ok (.iload_n 1, 1) := by decide +kernel
theorem dX7_loadedWord_2 : decode cX7_loadedWord 2 = .ok (.invokevirtual 212, 3) := by decide +kernel
theorem dX7_loadedWord_5 : decode cX7_loadedWord 5 = .ok (.ifCond .ne 5, 3) := by decide +kernel
theorem dX7_loadedWord_8 : decode cX7_loadedWord 8 = .ok (.iconst 0, 1) := by decide +kernel
theorem dX7_loadedWord_9 : decode cX7_loadedWord 9 = .ok (.ireturn, 1) := by decide +kernel
theorem dX7_loadedWord_10 : decode cX7_loadedWord 10 = .ok (.iload_n 2, 1) := by decide +kernel
theorem dX7_loadedWord_11 : decode cX7_loadedWord 11 = .ok (.iconst 0, 1) := by decide +kernel
theorem dX7_loadedWord_12 : decode cX7_loadedWord 12 = .ok (.sipush 9999, 3) := by decide +kernel
theorem dX7_loadedWord_15 : decode cX7_loadedWord 15 = .ok (.invokestatic 85, 3) := by decide +kernel
theorem dX7_loadedWord_18 : decode cX7_loadedWord 18 = .ok (.ifCond .ne 9, 3) := by decide +kernel
theorem dX7_loadedWord_21 : decode cX7_loadedWord 21 = .ok (.aload_n 0, 1) := by decide +kernel
theorem dX7_loadedWord_22 : decode cX7_loadedWord 22 = .ok (.iconst 3, 1) := by decide +kernel
theorem dX7_loadedWord_23 : decode cX7_loadedWord 23 = .ok (.invokevirtual 92, 3) := by decide +kernel
theorem dX7_loadedWord_26 : decode cX7_loadedWord 26 = .ok (.ireturn, 1) := by decide +kernel
theorem dX7_loadedWord_27 : decode cX7_loadedWord 27 = .ok (.aload_n 0, 1) := by decide +kernel
theorem dX7_loadedWord_28 : decode cX7_loadedWord 28 = .ok (.getfield 73, 3) := by decide +kernel
theorem dX7_loadedWord_31 : decode cX7_loadedWord 31 = .ok (.iload_n 1, 1) := by decide +kernel
theorem dX7_loadedWord_32 : decode cX7_loadedWord 32 = .ok (.baload, 1) := by decide +kernel
theorem dX7_loadedWord_33 : decode cX7_loadedWord 33 = .ok (.ifCond .eq 14, 3) := by decide +kernel
theorem dX7_loadedWord_36 : decode cX7_loadedWord 36 = .ok (.aload_n 0, 1) := by decide +kernel
theorem dX7_loadedWord_37 : decode cX7_loadedWord 37 = .ok (.getfield 70, 3) := by decide +kernel
theorem dX7_loadedWord_40 : decode cX7_loadedWord 40 = .ok (.iload_n 1, 1) := by decide +kernel
theorem dX7_loadedWord_41 : decode cX7_loadedWord 41 = .ok (.iaload, 1) := by decide +kernel
theorem dX7_loadedWord_42 : decode cX7_loadedWord 42 = .ok (.iload_n 2, 1) := by decide +kernel
theorem dX7_loadedWord_43 : decode cX7_loadedWord 43 = .ok (.iadd, 1) := by decide +kernel
theorem dX7_loadedWord_44 : decode cX7_loadedWord 44 = .ok (.goto 9, 3) := by decide +kernel
theorem dX7_loadedWord_47 : decode cX7_loadedWord 47 = .ok (.aload_n 0, 1) := by decide +kernel
theorem dX7_loadedWord_48 : decode cX7_loadedWord 48 = .ok (.getfield 70, 3) := by decide +kernel
theorem dX7_loadedWord_51 : decode cX7_loadedWord 51 = .ok (.iload_n 1, 1) := by decide +kernel
theorem dX7_loadedWord_52 : decode cX7_loadedWord 52 = .ok (.iaload, 1) := by decide +kernel
theorem dX7_loadedWord_53 : decode cX7_loadedWord 53 = .ok (.ireturn, 1) := by decide +kernel
theorem dX7_labelAddress_0 : decode cX7_labelAddress 0 = .ok (.aload_n 0, 1) := by decide +kernel
theorem dX7_labelAddress_1 : decode cX7_labelAddress 1 = .ok (.invokevirtual 209, 3) := by decide +kernel
theorem dX7_labelAddress_4 : decode cX7_labelAddress 4 = .ok (.ifCond .ne 5, 3) := by decide +kernel
theorem dX7_labelAddress_7 : decode cX7_labelAddress 7 = .ok (.iconst 0, 1) := by decide +kernel
theorem dX7_labelAddress_8 : decode cX7_labelAddress 8 = .ok (.ireturn, 1) := by decide +kernel
theorem dX7_labelAddress_9 : decode cX7_labelAddress 9 = .ok (.iconst 0, 1) := by decide +kernel
theorem dX7_labelAddress_10 : decode cX7_labelAddress 10 = .ok (.istore_n 2, 1) := by decide +kernel
theorem dX7_labelAddress_11 : decode cX7_labelAddress 11 = .ok (.iload_n 2, 1) := by decide +kernel
theorem dX7_labelAddress_12 : decode cX7_labelAddress 12 = .ok (.aload_n 0, 1) := by decide +kernel
theorem dX7_labelAddress_13 : decode cX7_labelAddress 13 = .ok (.getfield 124, 3) := by decide +kernel
theorem dX7_labelAddress_16 : decode cX7_labelAddress 16 = .ok (.if_icmp .ge 44, 3) := by decide +kernel
theorem dX7_labelAddress_19 : decode cX7_labelAddress 19 = .ok (.aload_n 0, 1) := by decide +kernel
theorem dX7_labelAddress_20 : decode cX7_labelAddress 20 = .ok (.getfield 48, 3) := by decide +kernel
theorem dX7_labelAddress_23 : decode cX7_labelAddress 23 = .ok (.iload_n 2, 1) := by decide +kernel
theorem dX7_labelAddress_24 : decode cX7_labelAddress 24 = .ok (.iaload, 1) := by decide +kernel
theorem dX7_labelAddress_25 : decode cX7_labelAddress 25 = .ok (.ifCond .ne 29, 3) := by decide +kernel
theorem dX7_labelAddress_28 : decode cX7_labelAddress 28 = .ok (.aload_n 0, 1) := by decide +kernel
theorem dX7_labelAddress_29 : decode cX7_labelAddress 29 = .ok (.getfield 54, 3) := by decide +kernel
theorem dX7_labelAddress_32 : decode cX7_labelAddress 32 = .ok (.iload_n 2, 1) := by decide +kernel
theorem dX7_labelAddress_33 : decode cX7_labelAddress 33 = .ok (.iaload, 1) := by decide +kernel
theorem dX7_labelAddress_34 : decode cX7_labelAddress 34 = .ok (.ifCond .ne 20, 3) := by decide +kernel
theorem dX7_labelAddress_37 : decode cX7_labelAddress 37 = .ok (.aload_n 0, 1) := by decide +kernel
theorem dX7_labelAddress_38 : decode cX7_labelAddress 38 = .ok (.getfield 51, 3) := by decide +kernel
theorem dX7_labelAddress_41 : decode cX7_labelAddress 41 = .ok (.iload_n 2, 1) := by decide +kernel
theorem dX7_labelAddress_42 : decode cX7_labelAddress 42 = .ok (.iaload, 1) := by decide +kernel
theorem dX7_labelAddress_43 : decode cX7_labelAddress 43 = .ok (.iload_n 1, 1) := by decide +kernel
theorem dX7_labelAddress_44 : decode cX7_labelAddress 44 = .ok (.if_icmp .ne 10, 3) := by decide +kernel
theorem dX7_labelAddress_47 : decode cX7_labelAddress 47 = .ok (.aload_n 0, 1) := by decide +kernel
theorem dX7_labelAddress_48 : decode cX7_labelAddress 48 = .ok (.getfield 60, 3) := by decide +kernel
theorem dX7_labelAddress_51 : decode cX7_labelAddress 51 = .ok (.iload_n 2, 1) := by decide +kernel
theorem dX7_labelAddress_52 : decode cX7_labelAddress 52 = .ok (.iaload, 1) := by decide +kernel
theorem dX7_labelAddress_53 : decode cX7_labelAddress 53 = .ok (.ireturn, 1) := by decide +kernel
theorem dX7_labelAddress_54 : decode cX7_labelAddress 54 = .ok (.iinc 2 1, 3) := by decide +kernel
theorem dX7_labelAddress_57 : decode cX7_labelAddress 57 = .ok (.goto (-46), 3) := by decide +kernel
theorem dX7_labelAddress_60 : decode cX7_labelAddress 60 = .ok (.aload_n 0, 1) := by decide +kernel
theorem dX7_labelAddress_61 : decode cX7_labelAddress 61 = .ok (.iconst 1, 1) := by decide +kernel
theorem dX7_labelAddress_62 : decode cX7_labelAddress 62 = .ok (.invokevirtual 92, 3) := by decide +kernel
theorem dX7_labelAddress_65 : decode cX7_labelAddress 65 = .ok (.ireturn, 1) := by decide +kernel
theorem dX7_passes_0 : decode cX7_passes 0 = .ok (.aload_n 0, 1) := by decide +kernel
theorem dX7_passes_1 : decode cX7_passes 1 = .ok (.invokevirtual 209, 3) := by decide +kernel
theorem dX7_passes_4 : decode cX7_passes 4 = .ok (.ifCond .eq 10, 3) := by decide +kernel
theorem dX7_passes_7 : decode cX7_passes 7 = .ok (.aload_n 0, 1) := by decide +kernel
theorem dX7_passes_8 : decode cX7_passes 8 = .ok (.getfield 179, 3) := by decide +kernel
theorem dX7_passes_11 : decode cX7_passes 11 = .ok (.goto 4, 3) := by decide +kernel
theorem dX7_passes_14 : decode cX7_passes 14 = .ok (.iconst 0, 1) := by decide +kernel
theorem dX7_passes_15 : decode cX7_passes 15 = .ok (.ireturn, 1) := by decide +kernel
theorem dX7_jumps_0 : decode cX7_jumps 0 = .ok (.iconst 0, 1) := by decide +kernel
theorem dX7_jumps_1 : decode cX7_jumps 1 = .ok (.istore_n 2, 1) := by decide +kernel
theorem dX7_jumps_2 : decode cX7_jumps 2 = .ok (.iconst 0, 1) := by decide +kernel
theorem dX7_jumps_3 : decode cX7_jumps 3 = .ok (.istore_n 3, 1) := by decide +kernel
theorem dX7_jumps_4 : decode cX7_jumps 4 = .ok (.iload_n 3, 1) := by decide +kernel
theorem dX7_jumps_5 : decode cX7_jumps 5 = .ok (.aload_n 0, 1) := by decide +kernel
theorem dX7_jumps_6 : decode cX7_jumps 6 = .ok (.getfield 124, 3) := by decide +kernel
theorem dX7_jumps_9 : decode cX7_jumps 9 = .ok (.if_icmp .ge 37, 3) := by decide +kernel
theorem dX7_jumps_12 : decode cX7_jumps 12 = .ok (.iload_n 2, 1) := by decide +kernel
theorem dX7_jumps_13 : decode cX7_jumps 13 = .ok (.aload_n 0, 1) := by decide +kernel
theorem dX7_jumps_14 : decode cX7_jumps 14 = .ok (.getfield 48, 3) := by decide +kernel
theorem dX7_jumps_17 : decode cX7_jumps 17 = .ok (.iload_n 3, 1) := by decide +kernel
theorem dX7_jumps_18 : decode cX7_jumps 18 = .ok (.iaload, 1) := by decide +kernel
theorem dX7_jumps_19 : decode cX7_jumps 19 = .ok (.iconst 3, 1) := by decide +kernel
theorem dX7_jumps_20 : decode cX7_jumps 20 = .ok (.if_icmp .ne 17, 3) := by decide +kernel
theorem dX7_jumps_23 : decode cX7_jumps 23 = .ok (.aload_n 0, 1) := by decide +kernel
theorem dX7_jumps_24 : decode cX7_jumps 24 = .ok (.getfield 66, 3) := by decide +kernel
theorem dX7_jumps_27 : decode cX7_jumps 27 = .ok (.iload_n 3, 1) := by decide +kernel
theorem dX7_jumps_28 : decode cX7_jumps 28 = .ok (.baload, 1) := by decide +kernel
theorem dX7_jumps_29 : decode cX7_jumps 29 = .ok (.iload_n 1, 1) := by decide +kernel
theorem dX7_jumps_30 : decode cX7_jumps 30 = .ok (.if_icmp .ne 7, 3) := by decide +kernel
theorem dX7_jumps_33 : decode cX7_jumps 33 = .ok (.iconst 1, 1) := by decide +kernel
theorem dX7_jumps_34 : decode cX7_jumps 34 = .ok (.goto 4, 3) := by decide +kernel
theorem dX7_jumps_37 : decode cX7_jumps 37 = .ok (.iconst 0, 1) := by decide +kernel
theorem dX7_jumps_38 : decode cX7_jumps 38 = .ok (.iadd, 1) := by decide +kernel
theorem dX7_jumps_39 : decode cX7_jumps 39 = .ok (.istore_n 2, 1) := by decide +kernel
theorem dX7_jumps_40 : decode cX7_jumps 40 = .ok (.iinc 3 1, 3) := by decide +kernel
theorem dX7_jumps_43 : decode cX7_jumps 43 = .ok (.goto (-39), 3) := by decide +kernel
theorem dX7_jumps_46 : decode cX7_jumps 46 = .ok (.iload_n 2, 1) := by decide +kernel
theorem dX7_jumps_47 : decode cX7_jumps 47 = .ok (.ireturn, 1) := by decide +kernel
theorem dX7_longJumps_0 : decode cX7_longJumps 0 = .ok (.aload_n 0, 1) := by decide +kernel
theorem dX7_longJumps_1 : decode cX7_longJumps 1 = .ok (.invokevirtual 209, 3) := by decide +kernel
theorem dX7_longJumps_4 : decode cX7_longJumps 4 = .ok (.ifCond .eq 11, 3) := by decide +kernel
theorem dX7_longJumps_7 : decode cX7_longJumps 7 = .ok (.aload_n 0, 1) := by decide +kernel
theorem dX7_longJumps_8 : decode cX7_longJumps 8 = .ok (.iconst 1, 1) := by decide +kernel
theorem dX7_longJumps_9 : decode cX7_longJumps 9 = .ok (.invokevirtual 215, 3) := by decide +kernel
theorem dX7_longJumps_12 : decode cX7_longJumps 12 = .ok (.goto 4, 3) := by decide +kernel
theorem dX7_longJumps_15 : decode cX7_longJumps 15 = .ok (.iconst 0, 1) := by decide +kernel
theorem dX7_longJumps_16 : decode cX7_longJumps 16 = .ok (.ireturn, 1) := by decide +kernel
theorem dX7_items_0 : decode cX7_items 0 = .ok (.aload_n 0, 1) := by decide +kernel
theorem dX7_items_1 : decode cX7_items 1 = .ok (.invokevirtual 209, 3) := by decide +kernel
theorem dX7_items_4 : decode cX7_items 4 = .ok (.ifCond .eq 10, 3) := by decide +kernel
theorem dX7_items_7 : decode cX7_items 7 = .ok (.aload_n 0, 1) := by decide +kernel
theorem dX7_items_8 : decode cX7_items 8 = .ok (.getfield 124, 3) := by decide +kernel
theorem dX7_items_11 : decode cX7_items 11 = .ok (.goto 4, 3) := by decide +kernel
theorem dX7_items_14 : decode cX7_items 14 = .ok (.iconst 0, 1) := by decide +kernel
theorem dX7_items_15 : decode cX7_items 15 = .ok (.ireturn, 1) := by decide +kernel
theorem dX7_isItem_0 : decode cX7_isItem 0 = .ok (.aload_n 0, 1) := by decide +kernel
theorem dX7_isItem_1 : decode cX7_isItem 1 = .ok (.invokevirtual 209, 3) := by decide +kernel
theorem dX7_isItem_4 : decode cX7_isItem 4 = .ok (.ifCond .ne 5, 3) := by decide +kernel
theorem dX7_isItem_7 : decode cX7_isItem 7 = .ok (.iconst 0, 1) := by decide +kernel
theorem dX7_isItem_8 : decode cX7_isItem 8 = .ok (.ireturn, 1) := by decide +kernel
theorem dX7_isItem_9 : decode cX7_isItem 9 = .ok (.aload_n 0, 1) := by decide +kernel
theorem dX7_isItem_10 : decode cX7_isItem 10 = .ok (.iload_n 1, 1) := by decide +kernel
theorem dX7_isItem_11 : decode cX7_isItem 11 = .ok (.iconst 0, 1) := by decide +kernel
theorem dX7_isItem_12 : decode cX7_isItem 12 = .ok (.aload_n 0, 1) := by decide +kernel
theorem dX7_isItem_13 : decode cX7_isItem 13 = .ok (.getfield 124, 3) := by decide +kernel
theorem dX7_isItem_16 : decode cX7_isItem 16 = .ok (.iconst 1, 1) := by decide +kernel
theorem dX7_isItem_17 : decode cX7_isItem 17 = .ok (.isub, 1) := by decide +kernel
theorem dX7_isItem_18 : decode cX7_isItem 18 = .ok (.invokestatic 85, 3) := by decide +kernel
theorem dX7_isItem_21 : decode cX7_isItem 21 = .ok (.ifCond .eq 7, 3) := by decide +kernel
theorem dX7_isItem_24 : decode cX7_isItem 24 = .ok (.iconst 0, 1) := by decide +kernel
theorem dX7_isItem_25 : decode cX7_isItem 25 = .ok (.goto 4, 3) := by decide +kernel
theorem dX7_isItem_28 : decode cX7_isItem 28 = .ok (.iconst 2, 1) := by decide +kernel
theorem dX7_isItem_29 : decode cX7_isItem 29 = .ok (.putfield 82, 3) := by decide +kernel
theorem dX7_isItem_32 : decode cX7_isItem 32 = .ok (.aload_n 0, 1) := by decide +kernel
theorem dX7_isItem_33 : decode cX7_isItem 33 = .ok (.getfield 82, 3) := by decide +kernel
theorem dX7_isItem_36 : decode cX7_isItem 36 = .ok (.ifCond .ne 7, 3) := by decide +kernel
theorem dX7_isItem_39 : decode cX7_isItem 39 = .ok (.iconst 1, 1) := by decide +kernel
theorem dX7_isItem_40 : decode cX7_isItem 40 = .ok (.goto 4, 3) := by decide +kernel
theorem dX7_isItem_43 : decode cX7_isItem 43 = .ok (.iconst 0, 1) := by decide +kernel
theorem dX7_isItem_44 : decode cX7_isItem 44 = .ok (.ireturn, 1) := by decide +kernel
theorem dX7_lineOf_0 : decode cX7_lineOf 0 = .ok (.aload_n 0, 1) := by decide +kernel
theorem dX7_lineOf_1 : decode cX7_lineOf 1 = .ok (.iload_n 1, 1) := by decide +kernel
theorem dX7_lineOf_2 : decode cX7_lineOf 2 = .ok (.invokevirtual 219, 3) := by decide +kernel
theorem dX7_lineOf_5 : decode cX7_lineOf 5 = .ok (.ifCond .eq 12, 3) := by decide +kernel
theorem dX7_lineOf_8 : decode cX7_lineOf 8 = .ok (.aload_n 0, 1) := by decide +kernel
theorem dX7_lineOf_9 : decode cX7_lineOf 9 = .ok (.getfield 45, 3) := by decide +kernel
theorem dX7_lineOf_12 : decode cX7_lineOf 12 = .ok (.iload_n 1, 1) := by decide +kernel
theorem dX7_lineOf_13 : decode cX7_lineOf 13 = .ok (.iaload, 1) := by decide +kernel
theorem dX7_lineOf_14 : decode cX7_lineOf 14 = .ok (.goto 4, 3) := by decide +kernel
theorem dX7_lineOf_17 : decode cX7_lineOf 17 = .ok (.iconst 0, 1) := by decide +kernel
theorem dX7_lineOf_18 : decode cX7_lineOf 18 = .ok (.ireturn, 1) := by decide +kernel
theorem dX7_kindOf_0 : decode cX7_kindOf 0 = .ok (.aload_n 0, 1) := by decide +kernel
theorem dX7_kindOf_1 : decode cX7_kindOf 1 = .ok (.iload_n 1, 1) := by decide +kernel
theorem dX7_kindOf_2 : decode cX7_kindOf 2 = .ok (.invokevirtual 219, 3) := by decide +kernel
theorem dX7_kindOf_5 : decode cX7_kindOf 5 = .ok (.ifCond .ne 5, 3) := by decide +kernel
theorem dX7_kindOf_8 : decode cX7_kindOf 8 = .ok (.iconst 0, 1) := by decide +kernel
theorem dX7_kindOf_9 : decode cX7_kindOf 9 = .ok (.ireturn, 1) := by decide +kernel
theorem dX7_kindOf_10 : decode cX7_kindOf 10 = .ok (.aload_n 0, 1) := by decide +kernel
theorem dX7_kindOf_11 : decode cX7_kindOf 11 = .ok (.getfield 48, 3) := by decide +kernel
theorem dX7_kindOf_14 : decode cX7_kindOf 14 = .ok (.iload_n 1, 1) := by decide +kernel
theorem dX7_kindOf_15 : decode cX7_kindOf 15 = .ok (.iaload, 1) := by decide +kernel
theorem dX7_kindOf_16 : decode cX7_kindOf 16 = .ok (.istore_n 2, 1) := by decide +kernel
theorem dX7_kindOf_17 : decode cX7_kindOf 17 = .ok (.iload_n 2, 1) := by decide +kernel
theorem dX7_kindOf_18 : decode cX7_kindOf 18 = .ok (.ifCond .ne 8, 3) := by decide +kernel
theorem dX7_kindOf_21 : decode cX7_kindOf 21 = .ok (.bipush 108, 2) := by decide +kernel
theorem dX7_kindOf_23 : decode cX7_kindOf 23 = .ok (.goto 59, 3) := by decide +kernel
theorem dX7_kindOf_26 : decode cX7_kindOf 26 = .ok (.iload_n 2, 1) := by decide +kernel
theorem dX7_kindOf_27 : decode cX7_kindOf 27 = .ok (.iconst 1, 1) := by decide +kernel
theorem dX7_kindOf_28 : decode cX7_kindOf 28 = .ok (.if_icmp .ne 8, 3) := by decide +kernel
theorem dX7_kindOf_31 : decode cX7_kindOf 31 = .ok (.bipush 119, 2) := by decide +kernel
theorem dX7_kindOf_33 : decode cX7_kindOf 33 = .ok (.goto 49, 3) := by decide +kernel
theorem dX7_kindOf_36 : decode cX7_kindOf 36 = .ok (.iload_n 2, 1) := by decide +kernel
theorem dX7_kindOf_37 : decode cX7_kindOf 37 = .ok (.iconst 2, 1) := by decide +kernel
theorem dX7_kindOf_38 : decode cX7_kindOf 38 = .ok (.if_icmp .ne 8, 3) := by decide +kernel
theorem dX7_kindOf_41 : decode cX7_kindOf 41 = .ok (.bipush 111, 2) := by decide +kernel
theorem dX7_kindOf_43 : decode cX7_kindOf 43 = .ok (.goto 39, 3) := by decide +kernel
theorem dX7_kindOf_46 : decode cX7_kindOf 46 = .ok (.iload_n 2, 1) := by decide +kernel
theorem dX7_kindOf_47 : decode cX7_kindOf 47 = .ok (.iconst 4, 1) := by decide +kernel
theorem dX7_kindOf_48 : decode cX7_kindOf 48 = .ok (.if_icmp .ne 8, 3) := by decide +kernel
theorem dX7_kindOf_51 : decode cX7_kindOf 51 = .ok (.bipush 97, 2) := by decide +kernel
theorem dX7_kindOf_53 : decode cX7_kindOf 53 = .ok (.goto 29, 3) := by decide +kernel
theorem dX7_kindOf_56 : decode cX7_kindOf 56 = .ok (.iload_n 2, 1) := by decide +kernel
theorem dX7_kindOf_57 : decode cX7_kindOf 57 = .ok (.iconst 5, 1) := by decide +kernel
theorem dX7_kindOf_58 : decode cX7_kindOf 58 = .ok (.if_icmp .ne 8, 3) := by decide +kernel
theorem dX7_kindOf_61 : decode cX7_kindOf 61 = .ok (.bipush 103, 2) := by decide +kernel
theorem dX7_kindOf_63 : decode cX7_kindOf 63 = .ok (.goto 19, 3) := by decide +kernel
theorem dX7_kindOf_66 : decode cX7_kindOf 66 = .ok (.aload_n 0, 1) := by decide +kernel
theorem dX7_kindOf_67 : decode cX7_kindOf 67 = .ok (.getfield 66, 3) := by decide +kernel
theorem dX7_kindOf_70 : decode cX7_kindOf 70 = .ok (.iload_n 1, 1) := by decide +kernel
theorem dX7_kindOf_71 : decode cX7_kindOf 71 = .ok (.baload, 1) := by decide +kernel
theorem dX7_kindOf_72 : decode cX7_kindOf 72 = .ok (.ifCond .eq 8, 3) := by decide +kernel
theorem dX7_kindOf_75 : decode cX7_kindOf 75 = .ok (.bipush 74, 2) := by decide +kernel
theorem dX7_kindOf_77 : decode cX7_kindOf 77 = .ok (.goto 5, 3) := by decide +kernel
theorem dX7_kindOf_80 : decode cX7_kindOf 80 = .ok (.bipush 106, 2) := by decide +kernel
theorem dX7_kindOf_82 : decode cX7_kindOf 82 = .ok (.ireturn, 1) := by decide +kernel
theorem dX7_depthOf_0 : decode cX7_depthOf 0 = .ok (.aload_n 0, 1) := by decide +kernel
theorem dX7_depthOf_1 : decode cX7_depthOf 1 = .ok (.iload_n 1, 1) := by decide +kernel
theorem dX7_depthOf_2 : decode cX7_depthOf 2 = .ok (.invokevirtual 219, 3) := by decide +kernel
theorem dX7_depthOf_5 : decode cX7_depthOf 5 = .ok (.ifCond .eq 12, 3) := by decide +kernel
theorem dX7_depthOf_8 : decode cX7_depthOf 8 = .ok (.aload_n 0, 1) := by decide +kernel
theorem dX7_depthOf_9 : decode cX7_depthOf 9 = .ok (.getfield 57, 3) := by decide +kernel
theorem dX7_depthOf_12 : decode cX7_depthOf 12 = .ok (.iload_n 1, 1) := by decide +kernel
theorem dX7_depthOf_13 : decode cX7_depthOf 13 = .ok (.iaload, 1) := by decide +kernel
theorem dX7_depthOf_14 : decode cX7_depthOf 14 = .ok (.goto 4, 3) := by decide +kernel
theorem dX7_depthOf_17 : decode cX7_depthOf 17 = .ok (.iconst 0, 1) := by decide +kernel
theorem dX7_depthOf_18 : decode cX7_depthOf 18 = .ok (.ireturn, 1) := by decide +kernel
theorem dX7_addressOf_0 : decode cX7_addressOf 0 = .ok (.aload_n 0, 1) := by decide +kernel
theorem dX7_addressOf_1 : decode cX7_addressOf 1 = .ok (.iload_n 1, 1) := by decide +kernel
theorem dX7_addressOf_2 : decode cX7_addressOf 2 = .ok (.invokevirtual 219, 3) := by decide +kernel
theorem dX7_addressOf_5 : decode cX7_addressOf 5 = .ok (.ifCond .eq 12, 3) := by decide +kernel
theorem dX7_addressOf_8 : decode cX7_addressOf 8 = .ok (.aload_n 0, 1) := by decide +kernel
theorem dX7_addressOf_9 : decode cX7_addressOf 9 = .ok (.getfield 60, 3) := by decide +kernel
theorem dX7_addressOf_12 : decode cX7_addressOf 12 = .ok (.iload_n 1, 1) := by decide +kernel
theorem dX7_addressOf_13 : decode cX7_addressOf 13 = .ok (.iaload, 1) := by decide +kernel
theorem dX7_addressOf_14 : decode cX7_addressOf 14 = .ok (.goto 4, 3) := by decide +kernel
theorem dX7_addressOf_17 : decode cX7_addressOf 17 = .ok (.iconst 0, 1) := by decide +kernel
theorem dX7_addressOf_18 : decode cX7_addressOf 18 = .ok (.ireturn, 1) := by decide +kernel
theorem dX7_addressByAdding_0 : decode cX7_addressByAdding 0 = .ok (.aload_n 0, 1) := by decide +kernel
theorem dX7_addressByAdding_1 : decode cX7_addressByAdding 1 = .ok (.iload_n 1, 1) := by decide +kernel
theorem dX7_addressByAdding_2 : decode cX7_addressByAdding 2 = .ok (.invokevirtual 222, 3) := by decide +kernel
theorem dX7_addressByAdding_5 : decode cX7_addressByAdding 5 = .ok (.ireturn, 1) := by decide +kernel
theorem dX7_targetOf_0 : decode cX7_targetOf 0 = .ok (.aload_n 0, 1) := by decide +kernel
theorem dX7_targetOf_1 : decode cX7_targetOf 1 = .ok (.iload_n 1, 1) := by decide +kernel
theorem dX7_targetOf_2 : decode cX7_targetOf 2 = .ok (.invokevirtual 219, 3) := by decide +kernel
theorem dX7_targetOf_5 : decode cX7_targetOf 5 = .ok (.ifCond .ne 5, 3) := by decide +kernel
theorem dX7_targetOf_8 : decode cX7_targetOf 8 = .ok (.iconst 0, 1) := by decide +kernel
theorem dX7_targetOf_9 : decode cX7_targetOf 9 = .ok (.ireturn, 1) := by decide +kernel
theorem dX7_targetOf_10 : decode cX7_targetOf 10 = .ok (.aload_n 0, 1) := by decide +kernel
theorem dX7_targetOf_11 : decode cX7_targetOf 11 = .ok (.iload_n 1, 1) := by decide +kernel
theorem dX7_targetOf_12 : decode cX7_targetOf 12 = .ok (.invokevirtual 151, 3) := by decide +kernel
theorem dX7_targetOf_15 : decode cX7_targetOf 15 = .ok (.ifCond .eq 12, 3) := by decide +kernel
theorem dX7_targetOf_18 : decode cX7_targetOf 18 = .ok (.aload_n 0, 1) := by decide +kernel
theorem dX7_targetOf_19 : decode cX7_targetOf 19 = .ok (.getfield 63, 3) := by decide +kernel
theorem dX7_targetOf_22 : decode cX7_targetOf 22 = .ok (.iload_n 1, 1) := by decide +kernel
theorem dX7_targetOf_23 : decode cX7_targetOf 23 = .ok (.iaload, 1) := by decide +kernel
theorem dX7_targetOf_24 : decode cX7_targetOf 24 = .ok (.goto 8, 3) := by decide +kernel
theorem dX7_targetOf_27 : decode cX7_targetOf 27 = .ok (.aload_n 0, 1) := by decide +kernel
theorem dX7_targetOf_28 : decode cX7_targetOf 28 = .ok (.iconst 3, 1) := by decide +kernel
theorem dX7_targetOf_29 : decode cX7_targetOf 29 = .ok (.invokevirtual 92, 3) := by decide +kernel
theorem dX7_targetOf_32 : decode cX7_targetOf 32 = .ok (.ireturn, 1) := by decide +kernel
theorem dX7_shortShare_0 : decode cX7_shortShare 0 = .ok (.aload_n 0, 1) := by decide +kernel
theorem dX7_shortShare_1 : decode cX7_shortShare 1 = .ok (.invokevirtual 209, 3) := by decide +kernel
theorem dX7_shortShare_4 : decode cX7_shortShare 4 = .ok (.ifCond .ne 5, 3) := by decide +kernel
theorem dX7_shortShare_7 : decode cX7_shortShare 7 = .ok (.fconst 0, 1) := by decide +kernel
theorem dX7_shortShare_8 : decode cX7_shortShare 8 = .ok (.freturn, 1) := by decide +kernel
theorem dX7_shortShare_9 : decode cX7_shortShare 9 = .ok (.aload_n 0, 1) := by decide +kernel
theorem dX7_shortShare_10 : decode cX7_shortShare 10 = .ok (.iconst 1, 1) := by decide +kernel
theorem dX7_shortShare_11 : decode cX7_shortShare 11 = .ok (.invokevirtual 215, 3) := by decide +kernel
theorem dX7_shortShare_14 : decode cX7_shortShare 14 = .ok (.aload_n 0, 1) := by decide +kernel
theorem dX7_shortShare_15 : decode cX7_shortShare 15 = .ok (.iconst 0, 1) := by decide +kernel
theorem dX7_shortShare_16 : decode cX7_shortShare 16 = .ok (.invokevirtual 215, 3) := by decide +kernel
theorem dX7_shortShare_19 : decode cX7_shortShare 19 = .ok (.iadd, 1) := by decide +kernel
theorem dX7_shortShare_20 : decode cX7_shortShare 20 = .ok (.istore_n 1, 1) := by decide +kernel
theorem dX7_shortShare_21 : decode cX7_shortShare 21 = .ok (.iload_n 1, 1) := by decide +kernel
theorem dX7_shortShare_22 : decode cX7_shortShare 22 = .ok (.ifCond .ne 12, 3) := by decide +kernel
theorem dX7_shortShare_25 : decode cX7_shortShare 25 = .ok (.aload_n 0, 1) := by decide +kernel
theorem dX7_shortShare_26 : decode cX7_shortShare 26 = .ok (.iconst 2, 1) := by decide +kernel
theorem dX7_shortShare_27 : decode cX7_shortShare 27 = .ok (.invokevirtual 92, 3) := by decide +kernel
theorem dX7_shortShare_30 : decode cX7_shortShare 30 = .ok (.i2f, 1) := by decide +kernel
theorem dX7_shortShare_31 : decode cX7_shortShare 31 = .ok (.goto 12, 3) := by decide +kernel
theorem dX7_shortShare_34 : decode cX7_shortShare 34 = .ok (.aload_n 0, 1) := by decide +kernel
theorem dX7_shortShare_35 : decode cX7_shortShare 35 = .ok (.iconst 0, 1) := by decide +kernel
theorem dX7_shortShare_36 : decode cX7_shortShare 36 = .ok (.invokevirtual 215, 3) := by decide +kernel
theorem dX7_shortShare_39 : decode cX7_shortShare 39 = .ok (.i2f, 1) := by decide +kernel
theorem dX7_shortShare_40 : decode cX7_shortShare 40 = .ok (.iload_n 1, 1) := by decide +kernel
theorem dX7_shortShare_41 : decode cX7_shortShare 41 = .ok (.i2f, 1) := by decide +kernel
theorem dX7_shortShare_42 : decode cX7_shortShare 42 = .ok (.fdiv, 1) := by decide +kernel
theorem dX7_shortShare_43 : decode cX7_shortShare 43 = .ok (.freturn, 1) := by decide +kernel
theorem dX7_meanWord_0 : decode cX7_meanWord 0 = .ok (.aload_n 0, 1) := by decide +kernel
theorem dX7_meanWord_1 : decode cX7_meanWord 1 = .ok (.invokevirtual 209, 3) := by decide +kernel
theorem dX7_meanWord_4 : decode cX7_meanWord 4 = .ok (.ifCond .ne 5, 3) := by decide +kernel
theorem dX7_meanWord_7 : decode cX7_meanWord 7 = .ok (.dconst 0, 1) := by decide +kernel
theorem dX7_meanWord_8 : decode cX7_meanWord 8 = .ok (.dreturn, 1) := by decide +kernel
theorem dX7_meanWord_9 : decode cX7_meanWord 9 = .ok (.lconst 0, 1) := by decide +kernel
theorem dX7_meanWord_10 : decode cX7_meanWord 10 = .ok (.lstore_n 1, 1) := by decide +kernel
theorem dX7_meanWord_11 : decode cX7_meanWord 11 = .ok (.iconst 0, 1) := by decide +kernel
theorem dX7_meanWord_12 : decode cX7_meanWord 12 = .ok (.istore_n 3, 1) := by decide +kernel
theorem dX7_meanWord_13 : decode cX7_meanWord 13 = .ok (.iload_n 3, 1) := by decide +kernel
theorem dX7_meanWord_14 : decode cX7_meanWord 14 = .ok (.aload_n 0, 1) := by decide +kernel
theorem dX7_meanWord_15 : decode cX7_meanWord 15 = .ok (.getfield 162, 3) := by decide +kernel
theorem dX7_meanWord_18 : decode cX7_meanWord 18 = .ok (.if_icmp .ge 19, 3) := by decide +kernel
theorem dX7_meanWord_21 : decode cX7_meanWord 21 = .ok (.lload_n 1, 1) := by decide +kernel
theorem dX7_meanWord_22 : decode cX7_meanWord 22 = .ok (.aload_n 0, 1) := by decide +kernel
theorem dX7_meanWord_23 : decode cX7_meanWord 23 = .ok (.getfield 70, 3) := by decide +kernel
theorem dX7_meanWord_26 : decode cX7_meanWord 26 = .ok (.iload_n 3, 1) := by decide +kernel
theorem dX7_meanWord_27 : decode cX7_meanWord 27 = .ok (.iaload, 1) := by decide +kernel
theorem dX7_meanWord_28 : decode cX7_meanWord 28 = .ok (.i2l, 1) := by decide +kernel
theorem dX7_meanWord_29 : decode cX7_meanWord 29 = .ok (.ladd, 1) := by decide +kernel
theorem dX7_meanWord_30 : decode cX7_meanWord 30 = .ok (.lstore_n 1, 1) := by decide +kernel
theorem dX7_meanWord_31 : decode cX7_meanWord 31 = .ok (.iinc 3 1, 3) := by decide +kernel
theorem dX7_meanWord_34 : decode cX7_meanWord 34 = .ok (.goto (-21), 3) := by decide +kernel
theorem dX7_meanWord_37 : decode cX7_meanWord 37 = .ok (.aload_n 0, 1) := by decide +kernel
theorem dX7_meanWord_38 : decode cX7_meanWord 38 = .ok (.getfield 162, 3) := by decide +kernel
theorem dX7_meanWord_41 : decode cX7_meanWord 41 = .ok (.ifCond .ne 12, 3) := by decide +kernel
theorem dX7_meanWord_44 : decode cX7_meanWord 44 = .ok (.aload_n 0, 1) := by decide +kernel
theorem dX7_meanWord_45 : decode cX7_meanWord 45 = .ok (.iconst 2, 1) := by decide +kernel
theorem dX7_meanWord_46 : decode cX7_meanWord 46 = .ok (.invokevirtual 92, 3) := by decide +kernel
theorem dX7_meanWord_49 : decode cX7_meanWord 49 = .ok (.i2d, 1) := by decide +kernel
theorem dX7_meanWord_50 : decode cX7_meanWord 50 = .ok (.goto 11, 3) := by decide +kernel
theorem dX7_meanWord_53 : decode cX7_meanWord 53 = .ok (.lload_n 1, 1) := by decide +kernel
theorem dX7_meanWord_54 : decode cX7_meanWord 54 = .ok (.l2d, 1) := by decide +kernel
theorem dX7_meanWord_55 : decode cX7_meanWord 55 = .ok (.aload_n 0, 1) := by decide +kernel
theorem dX7_meanWord_56 : decode cX7_meanWord 56 = .ok (.getfield 162, 3) := by decide +kernel
theorem dX7_meanWord_59 : decode cX7_meanWord 59 = .ok (.i2d, 1) := by decide +kernel
theorem dX7_meanWord_60 : decode cX7_meanWord 60 = .ok (.ddiv, 1) := by decide +kernel
theorem dX7_meanWord_61 : decode cX7_meanWord 61 = .ok (.dreturn, 1) := by decide +kernel
theorem dJ7_rangeCheck_23922_0 : decode cJ7_rangeCheck_23922 0 = .ok (.iload_n 1, 1) := by decide +kernel
theorem dJ7_rangeCheck_23922_1 : decode cJ7_rangeCheck_23922 1 = .ok (.iload_n 2, 1) := by decide +kernel
theorem dJ7_rangeCheck_23922_2 : decode cJ7_rangeCheck_23922 2 = .ok (.if_icmp .le 44, 3) := by decide +kernel
theorem dJ7_rangeCheck_23922_5 : decode cJ7_rangeCheck_23922 5 = .ok (.new 43, 3) := by decide +kernel
theorem dJ7_rangeCheck_23922_8 : decode cJ7_rangeCheck_23922 8 = .ok (.dup, 1) := by decide +kernel
theorem dJ7_rangeCheck_23922_9 : decode cJ7_rangeCheck_23922 9 = .ok (.new 45, 3) := by decide +kernel
theorem dJ7_rangeCheck_23922_12 : decode cJ7_rangeCheck_23922 12 = .ok (.dup, 1) := by decide +kernel
theorem dJ7_rangeCheck_23922_13 : decode cJ7_rangeCheck_23922 13 = .ok (.invokespecial 47, 3) := by decide +kernel
theorem dJ7_rangeCheck_23922_16 : decode cJ7_rangeCheck_23922 16 = .ok (.ldc 48, 2) := by decide +kernel
theorem dJ7_rangeCheck_23922_18 : decode cJ7_rangeCheck_23922 18 = .ok (.invokevirtual 50, 3) := by decide +kernel
theorem dJ7_rangeCheck_23922_21 : decode cJ7_rangeCheck_23922 21 = .ok (.iload_n 1, 1) := by decide +kernel
theorem dJ7_rangeCheck_23922_22 : decode cJ7_rangeCheck_23922 22 = .ok (.invokevirtual 54, 3) := by decide +kernel
theorem dJ7_rangeCheck_23922_25 : decode cJ7_rangeCheck_23922 25 = .ok (.ldc 57, 2) := by decide +kernel
theorem dJ7_rangeCheck_23922_27 : decode cJ7_rangeCheck_23922 27 = .ok (.invokevirtual 50, 3) := by decide +kernel
theorem dJ7_rangeCheck_23922_30 : decode cJ7_rangeCheck_23922 30 = .ok (.iload_n 2, 1) := by decide +kernel
theorem dJ7_rangeCheck_23922_31 : decode cJ7_rangeCheck_23922 31 = .ok (.invokevirtual 54, 3) := by decide +kernel
theorem dJ7_rangeCheck_23922_34 : decode cJ7_rangeCheck_23922 34 = .ok (.ldc 59, 2) := by decide +kernel
theorem dJ7_rangeCheck_23922_36 : decode cJ7_rangeCheck_23922 36 = .ok (.invokevirtual 50, 3) := by decide +kernel
theorem dJ7_rangeCheck_23922_39 : decode cJ7_rangeCheck_23922 39 = .ok (.invokevirtual 61, 3) := by decide +kernel
theorem dJ7_rangeCheck_23922_42 : decode cJ7_rangeCheck_23922 42 = .ok (.invokespecial 65, 3) := by decide +kernel
theorem dJ7_rangeCheck_23922_45 : decode cJ7_rangeCheck_23922 45 = .ok (.athrow, 1) := by decide +kernel
theorem dJ7_rangeCheck_23922_46 : decode cJ7_rangeCheck_23922 46 = .ok (.iload_n 1, 1) := by decide +kernel
theorem dJ7_rangeCheck_23922_47 : decode cJ7_rangeCheck_23922 47 = .ok (.ifCond .ge 12, 3) := by decide +kernel
theorem dJ7_rangeCheck_23922_50 : decode cJ7_rangeCheck_23922 50 = .ok (.new 68, 3) := by decide +kernel
theorem dJ7_rangeCheck_23922_53 : decode cJ7_rangeCheck_23922 53 = .ok (.dup, 1) := by decide +kernel
theorem dJ7_rangeCheck_23922_54 : decode cJ7_rangeCheck_23922 54 = .ok (.iload_n 1, 1) := by decide +kernel
theorem dJ7_rangeCheck_23922_55 : decode cJ7_rangeCheck_23922 55 = .ok (.invokespecial 70, 3) := by decide +kernel
theorem dJ7_rangeCheck_23922_58 : decode cJ7_rangeCheck_23922 58 = .ok (.athrow, 1) := by decide +kernel
theorem dJ7_rangeCheck_23922_59 : decode cJ7_rangeCheck_23922 59 = .ok (.iload_n 2, 1) := by decide +kernel
theorem dJ7_rangeCheck_23922_60 : decode cJ7_rangeCheck_23922 60 = .ok (.iload_n 0, 1) := by decide +kernel
theorem dJ7_rangeCheck_23922_61 : decode cJ7_rangeCheck_23922 61 = .ok (.if_icmp .le 12, 3) := by decide +kernel
theorem dJ7_rangeCheck_23922_64 : decode cJ7_rangeCheck_23922 64 = .ok (.new 68, 3) := by decide +kernel
theorem dJ7_rangeCheck_23922_67 : decode cJ7_rangeCheck_23922 67 = .ok (.dup, 1) := by decide +kernel
theorem dJ7_rangeCheck_23922_68 : decode cJ7_rangeCheck_23922 68 = .ok (.iload_n 2, 1) := by decide +kernel
theorem dJ7_rangeCheck_23922_69 : decode cJ7_rangeCheck_23922 69 = .ok (.invokespecial 70, 3) := by decide +kernel
theorem dJ7_rangeCheck_23922_72 : decode cJ7_rangeCheck_23922 72 = .ok (.athrow, 1) := by decide +kernel
theorem dJ7_rangeCheck_23922_73 : decode cJ7_rangeCheck_23922 73 = .ok (.return_, 1) := by decide +kernel
theorem dJ7_fill_fda19_0 : decode cJ7_fill_fda19 0 = .ok (.aload_n 0, 1) := by decide +kernel
theorem dJ7_fill_fda19_1 : decode cJ7_fill_fda19 1 = .ok (.arraylength, 1) := by decide +kernel
theorem dJ7_fill_fda19_2 : decode cJ7_fill_fda19 2 = .ok (.iload_n 1, 1) := by decide +kernel
theorem dJ7_fill_fda19_3 : decode cJ7_fill_fda19 3 = .ok (.iload_n 2, 1) := by decide +kernel
theorem dJ7_fill_fda19_4 : decode cJ7_fill_fda19 4 = .ok (.invokestatic 13, 3) := by decide +kernel
theorem dJ7_fill_fda19_7 : decode cJ7_fill_fda19 7 = .ok (.iload_n 1, 1) := by decide +kernel
theorem dJ7_fill_fda19_8 : decode cJ7_fill_fda19 8 = .ok (.istore 4, 2) := by decide +kernel
theorem dJ7_fill_fda19_10 : decode cJ7_fill_fda19 10 = .ok (.iload 4, 2) := by decide +kernel
theorem dJ7_fill_fda19_12 : decode cJ7_fill_fda19 12 = .ok (.iload_n 2, 1) := by decide +kernel
theorem dJ7_fill_fda19_13 : decode cJ7_fill_fda19 13 = .ok (.if_icmp .ge 14, 3) := by decide +kernel
theorem dJ7_fill_fda19_16 : decode cJ7_fill_fda19 16 = .ok (.aload_n 0, 1) := by decide +kernel
theorem dJ7_fill_fda19_17 : decode cJ7_fill_fda19 17 = .ok (.iload 4, 2) := by decide +kernel
theorem dJ7_fill_fda19_19 : decode cJ7_fill_fda19 19 = .ok (.iload_n 3, 1) := by decide +kernel
theorem dJ7_fill_fda19_20 : decode cJ7_fill_fda19 20 = .ok (.iastore, 1) := by decide +kernel
theorem dJ7_fill_fda19_21 : decode cJ7_fill_fda19 21 = .ok (.iinc 4 1, 3) := by decide +kernel
theorem dJ7_fill_fda19_24 : decode cJ7_fill_fda19 24 = .ok (.goto (-14), 3) := by decide +kernel
theorem dJ7_fill_fda19_27 : decode cJ7_fill_fda19 27 = .ok (.return_, 1) := by decide +kernel
theorem dJ7_copyOf_9075b_0 : decode cJ7_copyOf_9075b 0 = .ok (.iload_n 1, 1) := by decide +kernel
theorem dJ7_copyOf_9075b_1 : decode cJ7_copyOf_9075b 1 = .ok (.aload_n 0, 1) := by decide +kernel
theorem dJ7_copyOf_9075b_2 : decode cJ7_copyOf_9075b 2 = .ok (.arraylength, 1) := by decide +kernel
theorem dJ7_copyOf_9075b_3 : decode cJ7_copyOf_9075b 3 = .ok (.if_icmp .ne 11, 3) := by decide +kernel
theorem dJ7_copyOf_9075b_6 : decode cJ7_copyOf_9075b 6 = .ok (.aload_n 0, 1) := by decide +kernel
theorem dJ7_copyOf_9075b_7 : decode cJ7_copyOf_9075b 7 = .ok (.invokevirtual 310, 3) := by decide +kernel
theorem dJ7_copyOf_9075b_10 : decode cJ7_copyOf_9075b 10 = .ok (.checkcast 311, 3) := by decide +kernel
theorem dJ7_copyOf_9075b_13 : decode cJ7_copyOf_9075b 13 = .ok (.areturn, 1) := by decide +kernel
theorem dJ7_copyOf_9075b_14 : decode cJ7_copyOf_9075b 14 = .ok (.iload_n 1, 1) := by decide +kernel
theorem dJ7_copyOf_9075b_15 : decode cJ7_copyOf_9075b 15 = .ok (.newarray .byte, 2) := by decide +kernel
theorem dJ7_copyOf_9075b_17 : decode cJ7_copyOf_9075b 17 = .ok (.astore_n 2, 1) := by decide +kernel
theorem dJ7_copyOf_9075b_18 : decode cJ7_copyOf_9075b 18 = .ok (.aload_n 0, 1) := by decide +kernel
theorem dJ7_copyOf_9075b_19 : decode cJ7_copyOf_9075b 19 = .ok (.iconst 0, 1) := by decide +kernel
theorem dJ7_copyOf_9075b_20 : decode cJ7_copyOf_9075b 20 = .ok (.aload_n 2, 1) := by decide +kernel
theorem dJ7_copyOf_9075b_21 : decode cJ7_copyOf_9075b 21 = .ok (.iconst 0, 1) := by decide +kernel
theorem dJ7_copyOf_9075b_22 : decode cJ7_copyOf_9075b 22 = .ok (.aload_n 0, 1) := by decide +kernel
theorem dJ7_copyOf_9075b_23 : decode cJ7_copyOf_9075b 23 = .ok (.arraylength, 1) := by decide +kernel
theorem dJ7_copyOf_9075b_24 : decode cJ7_copyOf_9075b 24 = .ok (.iload_n 1, 1) := by decide +kernel
theorem dJ7_copyOf_9075b_25 : decode cJ7_copyOf_9075b 25 = .ok (.invokestatic 304, 3) := by decide +kernel
theorem dJ7_copyOf_9075b_28 : decode cJ7_copyOf_9075b 28 = .ok (.invokestatic 150, 3) := by decide +kernel
theorem dJ7_copyOf_9075b_31 : decode cJ7_copyOf_9075b 31 = .ok (.aload_n 2, 1) := by decide +kernel
theorem dJ7_copyOf_9075b_32 : decode cJ7_copyOf_9075b 32 = .ok (.areturn, 1) := by decide +kernel
theorem dJ7_checkLength_df160_0 : decode cJ7_checkLength_df160 0 = .ok (.iload_n 1, 1) := by decide +kernel
theorem dJ7_checkLength_df160_1 : decode cJ7_checkLength_df160 1 = .ok (.iload_n 0, 1) := by decide +kernel
theorem dJ7_checkLength_df160_2 : decode cJ7_checkLength_df160 2 = .ok (.if_icmp .ge 35, 3) := by decide +kernel
theorem dJ7_checkLength_df160_5 : decode cJ7_checkLength_df160 5 = .ok (.new 43, 3) := by decide +kernel
theorem dJ7_checkLength_df160_8 : decode cJ7_checkLength_df160 8 = .ok (.dup, 1) := by decide +kernel
theorem dJ7_checkLength_df160_9 : decode cJ7_checkLength_df160 9 = .ok (.new 45, 3) := by decide +kernel
theorem dJ7_checkLength_df160_12 : decode cJ7_checkLength_df160 12 = .ok (.dup, 1) := by decide +kernel
theorem dJ7_checkLength_df160_13 : decode cJ7_checkLength_df160 13 = .ok (.invokespecial 47, 3) := by decide +kernel
theorem dJ7_checkLength_df160_16 : decode cJ7_checkLength_df160 16 = .ok (.iload_n 0, 1) := by decide +kernel
theorem dJ7_checkLength_df160_17 : decode cJ7_checkLength_df160 17 = .ok (.invokevirtual 54, 3) := by decide +kernel
theorem dJ7_checkLength_df160_20 : decode cJ7_checkLength_df160 20 = .ok (.ldc_w 337, 3) := by decide +kernel
theorem dJ7_checkLength_df160_23 : decode cJ7_checkLength_df160 23 = .ok (.invokevirtual 50, 3) := by decide +kernel
theorem dJ7_checkLength_df160_26 : decode cJ7_checkLength_df160 26 = .ok (.iload_n 1, 1) := by decide +kernel
theorem dJ7_checkLength_df160_27 : decode cJ7_checkLength_df160 27 = .ok (.invokevirtual 54, 3) := by decide +kernel
theorem dJ7_checkLength_df160_30 : decode cJ7_checkLength_df160 30 = .ok (.invokevirtual 61, 3) := by decide +kernel
theorem dJ7_checkLength_df160_33 : decode cJ7_checkLength_df160 33 = .ok (.invokespecial 65, 3) := by decide +kernel
theorem dJ7_checkLength_df160_36 : decode cJ7_checkLength_df160 36 = .ok (.athrow, 1) := by decide +kernel
theorem dJ7_checkLength_df160_37 : decode cJ7_checkLength_df160 37 = .ok (.return_, 1) := by decide +kernel
theorem dJ7_copyOfRange_39247_0 : decode cJ7_copyOfRange_39247 0 = .ok (.iload_n 1, 1) := by decide +kernel
theorem dJ7_copyOfRange_39247_1 : decode cJ7_copyOfRange_39247 1 = .ok (.ifCond .ne 9, 3) := by decide +kernel
theorem dJ7_copyOfRange_39247_4 : decode cJ7_copyOfRange_39247 4 = .ok (.iload_n 2, 1) := by decide +kernel
theorem dJ7_copyOfRange_39247_5 : decode cJ7_copyOfRange_39247 5 = .ok (.aload_n 0, 1) := by decide +kernel
theorem dJ7_copyOfRange_39247_6 : decode cJ7_copyOfRange_39247 6 = .ok (.arraylength, 1) := by decide +kernel
theorem dJ7_copyOfRange_39247_7 : decode cJ7_copyOfRange_39247 7 = .ok (.if_icmp .eq 10, 3) := by decide +kernel
theorem dJ7_copyOfRange_39247_10 : decode cJ7_copyOfRange_39247 10 = .ok (.aload_n 0, 1) := by decide +kernel
theorem dJ7_copyOfRange_39247_11 : decode cJ7_copyOfRange_39247 11 = .ok (.iload_n 1, 1) := by decide +kernel
theorem dJ7_copyOfRange_39247_12 : decode cJ7_copyOfRange_39247 12 = .ok (.iload_n 2, 1) := by decide +kernel
theorem dJ7_copyOfRange_39247_13 : decode cJ7_copyOfRange_39247 13 = .ok (.invokestatic 339, 3) := by decide +kernel
theorem dJ7_copyOfRange_39247_16 : decode cJ7_copyOfRange_39247 16 = .ok (.areturn, 1) := by decide +kernel
theorem dJ7_copyOfRange_39247_17 : decode cJ7_copyOfRange_39247 17 = .ok (.aload_n 0, 1) := by decide +kernel
theorem dJ7_copyOfRange_39247_18 : decode cJ7_copyOfRange_39247 18 = .ok (.invokevirtual 310, 3) := by decide +kernel
theorem dJ7_copyOfRange_39247_21 : decode cJ7_copyOfRange_39247 21 = .ok (.checkcast 311, 3) := by decide +kernel
theorem dJ7_copyOfRange_39247_24 : decode cJ7_copyOfRange_39247 24 = .ok (.areturn, 1) := by decide +kernel
theorem dJ7_copyOfRangeByte_39247_0 : decode cJ7_copyOfRangeByte_39247 0 = .ok (.iload_n 1, 1) := by decide +kernel
theorem dJ7_copyOfRangeByte_39247_1 : decode cJ7_copyOfRangeByte_39247 1 = .ok (.iload_n 2, 1) := by decide +kernel
theorem dJ7_copyOfRangeByte_39247_2 : decode cJ7_copyOfRangeByte_39247 2 = .ok (.invokestatic 343, 3) := by decide +kernel
theorem dJ7_copyOfRangeByte_39247_5 : decode cJ7_copyOfRangeByte_39247 5 = .ok (.iload_n 2, 1) := by decide +kernel
theorem dJ7_copyOfRangeByte_39247_6 : decode cJ7_copyOfRangeByte_39247 6 = .ok (.iload_n 1, 1) := by decide +kernel
theorem dJ7_copyOfRangeByte_39247_7 : decode cJ7_copyOfRangeByte_39247 7 = .ok (.isub, 1) := by decide +kernel
theorem dJ7_copyOfRangeByte_39247_8 : decode cJ7_copyOfRangeByte_39247 8 = .ok (.istore_n 3, 1) := by decide +kernel
theorem dJ7_copyOfRangeByte_39247_9 : decode cJ7_copyOfRangeByte_39247 9 = .ok (.iload_n 3, 1) := by decide +kernel
theorem dJ7_copyOfRangeByte_39247_10 : decode cJ7_copyOfRangeByte_39247 10 = .ok (.newarray .byte, 2) := by decide +kernel
theorem dJ7_copyOfRangeByte_39247_12 : decode cJ7_copyOfRangeByte_39247 12 = .ok (.astore 4, 2) := by decide +kernel
theorem dJ7_copyOfRangeByte_39247_14 : decode cJ7_copyOfRangeByte_39247 14 = .ok (.aload_n 0, 1) := by decide +kernel
theorem dJ7_copyOfRangeByte_39247_15 : decode cJ7_copyOfRangeByte_39247 15 = .ok (.iload_n 1, 1) := by decide +kernel
theorem dJ7_copyOfRangeByte_39247_16 : decode cJ7_copyOfRangeByte_39247 16 = .ok (.aload 4, 2) := by decide +kernel
theorem dJ7_copyOfRangeByte_39247_18 : decode cJ7_copyOfRangeByte_39247 18 = .ok (.iconst 0, 1) := by decide +kernel
theorem dJ7_copyOfRangeByte_39247_19 : decode cJ7_copyOfRangeByte_39247 19 = .ok (.aload_n 0, 1) := by decide +kernel
theorem dJ7_copyOfRangeByte_39247_20 : decode cJ7_copyOfRangeByte_39247 20 = .ok (.arraylength, 1) := by decide +kernel
theorem dJ7_copyOfRangeByte_39247_21 : decode cJ7_copyOfRangeByte_39247 21 = .ok (.iload_n 1, 1) := by decide +kernel
theorem dJ7_copyOfRangeByte_39247_22 : decode cJ7_copyOfRangeByte_39247 22 = .ok (.isub, 1) := by decide +kernel
theorem dJ7_copyOfRangeByte_39247_23 : decode cJ7_copyOfRangeByte_39247 23 = .ok (.iload_n 3, 1) := by decide +kernel
theorem dJ7_copyOfRangeByte_39247_24 : decode cJ7_copyOfRangeByte_39247 24 = .ok (.invokestatic 304, 3) := by decide +kernel
theorem dJ7_copyOfRangeByte_39247_27 : decode cJ7_copyOfRangeByte_39247 27 = .ok (.invokestatic 150, 3) := by decide +kernel
theorem dJ7_copyOfRangeByte_39247_30 : decode cJ7_copyOfRangeByte_39247 30 = .ok (.aload 4, 2) := by decide +kernel
theorem dJ7_copyOfRangeByte_39247_32 : decode cJ7_copyOfRangeByte_39247 32 = .ok (.areturn, 1) := by decide +kernel
theorem dL_label_0 : decode cL_label 0 = .ok (.aload_n 2, 1) := by decide +kernel
theorem dL_label_1 : decode cL_label 1 = .ok (.iconst 0, 1) := by decide +kernel
theorem dL_label_2 : decode cL_label 2 = .ok (.aload_n 0, 1) := by decide +kernel
theorem dL_label_3 : decode cL_label 3 = .ok (.iload_n 1, 1) := by decide +kernel
theorem dL_label_4 : decode cL_label 4 = .ok (.invokevirtual 7, 3) := by decide +kernel
theorem dL_label_7 : decode cL_label 7 = .ok (.i2l, 1) := by decide +kernel
theorem dL_label_8 : decode cL_label 8 = .ok (.lastore, 1) := by decide +kernel
theorem dL_label_9 : decode cL_label 9 = .ok (.goto 9, 3) := by decide +kernel
theorem dL_label_12 : decode cL_label 12 = .ok (.astore_n 3, 1) := by decide +kernel
theorem dL_label_13 : decode cL_label 13 = .ok (.iconst 1, 1) := by decide +kernel
theorem dL_label_14 : decode cL_label 14 = .ok (.ireturn, 1) := by decide +kernel
theorem dL_label_15 : decode cL_label 15 = .ok (.astore_n 3, 1) := by decide +kernel
theorem dL_label_16 : decode cL_label 16 = .ok (.iconst 2, 1) := by decide +kernel
theorem dL_label_17 : decode cL_label 17 = .ok (.ireturn, 1) := by decide +kernel
theorem dL_label_18 : decode cL_label 18 = .ok (.iconst 0, 1) := by decide +kernel
theorem dL_label_19 : decode cL_label 19 = .ok (.ireturn, 1) := by decide +kernel
theorem dL_word_0 : decode cL_word 0 = .ok (.aload_n 2, 1) := by decide +kernel
theorem dL_word_1 : decode cL_word 1 = .ok (.iconst 0, 1) := by decide +kernel
theorem dL_word_2 : decode cL_word 2 = .ok (.aload_n 0, 1) := by decide +kernel
theorem dL_word_3 : decode cL_word 3 = .ok (.iload_n 1, 1) := by decide +kernel
theorem dL_word_4 : decode cL_word 4 = .ok (.invokevirtual 17, 3) := by decide +kernel
theorem dL_word_7 : decode cL_word 7 = .ok (.i2l, 1) := by decide +kernel
theorem dL_word_8 : decode cL_word 8 = .ok (.lastore, 1) := by decide +kernel
theorem dL_word_9 : decode cL_word 9 = .ok (.goto 9, 3) := by decide +kernel
theorem dL_word_12 : decode cL_word 12 = .ok (.astore_n 3, 1) := by decide +kernel
theorem dL_word_13 : decode cL_word 13 = .ok (.iconst 1, 1) := by decide +kernel
theorem dL_word_14 : decode cL_word 14 = .ok (.ireturn, 1) := by decide +kernel
theorem dL_word_15 : decode cL_word 15 = .ok (.astore_n 3, 1) := by decide +kernel
theorem dL_word_16 : decode cL_word 16 = .ok (.iconst 2, 1) := by decide +kernel
theorem dL_word_17 : decode cL_word 17 = .ok (.ireturn, 1) := by decide +kernel
theorem dL_word_18 : decode cL_word 18 = .ok (.iconst 0, 1) := by decide +kernel
theorem dL_word_19 : decode cL_word 19 = .ok (.ireturn, 1) := by decide +kernel
theorem dL_operation_0 : decode cL_operation 0 = .ok (.aload_n 3, 1) := by decide +kernel
theorem dL_operation_1 : decode cL_operation 1 = .ok (.iconst 0, 1) := by decide +kernel
theorem dL_operation_2 : decode cL_operation 2 = .ok (.aload_n 0, 1) := by decide +kernel
theorem dL_operation_3 : decode cL_operation 3 = .ok (.iload_n 1, 1) := by decide +kernel
theorem dL_operation_4 : decode cL_operation 4 = .ok (.iload_n 2, 1) := by decide +kernel
theorem dL_operation_5 : decode cL_operation 5 = .ok (.invokevirtual 20, 3) := by decide +kernel
theorem dL_operation_8 : decode cL_operation 8 = .ok (.i2l, 1) := by decide +kernel
theorem dL_operation_9 : decode cL_operation 9 = .ok (.lastore, 1) := by decide +kernel
theorem dL_operation_10 : decode cL_operation 10 = .ok (.goto 11, 3) := by decide +kernel
theorem dL_operation_13 : decode cL_operation 13 = .ok (.astore 4, 2) := by decide +kernel
theorem dL_operation_15 : decode cL_operation 15 = .ok (.iconst 1, 1) := by decide +kernel
theorem dL_operation_16 : decode cL_operation 16 = .ok (.ireturn, 1) := by decide +kernel
theorem dL_operation_17 : decode cL_operation 17 = .ok (.astore 4, 2) := by decide +kernel
theorem dL_operation_19 : decode cL_operation 19 = .ok (.iconst 2, 1) := by decide +kernel
theorem dL_operation_20 : decode cL_operation 20 = .ok (.ireturn, 1) := by decide +kernel
theorem dL_operation_21 : decode cL_operation 21 = .ok (.iconst 0, 1) := by decide +kernel
theorem dL_operation_22 : decode cL_operation 22 = .ok (.ireturn, 1) := by decide +kernel
theorem dL_jump_0 : decode cL_jump 0 = .ok (.aload_n 2, 1) := by decide +kernel
theorem dL_jump_1 : decode cL_jump 1 = .ok (.iconst 0, 1) := by decide +kernel
theorem dL_jump_2 : decode cL_jump 2 = .ok (.aload_n 0, 1) := by decide +kernel
theorem dL_jump_3 : decode cL_jump 3 = .ok (.iload_n 1, 1) := by decide +kernel
theorem dL_jump_4 : decode cL_jump 4 = .ok (.invokevirtual 24, 3) := by decide +kernel
theorem dL_jump_7 : decode cL_jump 7 = .ok (.i2l, 1) := by decide +kernel
theorem dL_jump_8 : decode cL_jump 8 = .ok (.lastore, 1) := by decide +kernel
theorem dL_jump_9 : decode cL_jump 9 = .ok (.goto 9, 3) := by decide +kernel
theorem dL_jump_12 : decode cL_jump 12 = .ok (.astore_n 3, 1) := by decide +kernel
theorem dL_jump_13 : decode cL_jump 13 = .ok (.iconst 1, 1) := by decide +kernel
theorem dL_jump_14 : decode cL_jump 14 = .ok (.ireturn, 1) := by decide +kernel
theorem dL_jump_15 : decode cL_jump 15 = .ok (.astore_n 3, 1) := by decide +kernel
theorem dL_jump_16 : decode cL_jump 16 = .ok (.iconst 2, 1) := by decide +kernel
theorem dL_jump_17 : decode cL_jump 17 = .ok (.ireturn, 1) := by decide +kernel
theorem dL_jump_18 : decode cL_jump 18 = .ok (.iconst 0, 1) := by decide +kernel
theorem dL_jump_19 : decode cL_jump 19 = .ok (.ireturn, 1) := by decide +kernel
theorem dL_address_0 : decode cL_address 0 = .ok (.aload_n 2, 1) := by decide +kernel
theorem dL_address_1 : decode cL_address 1 = .ok (.iconst 0, 1) := by decide +kernel
theorem dL_address_2 : decode cL_address 2 = .ok (.aload_n 0, 1) := by decide +kernel
theorem dL_address_3 : decode cL_address 3 = .ok (.iload_n 1, 1) := by decide +kernel
theorem dL_address_4 : decode cL_address 4 = .ok (.invokevirtual 27, 3) := by decide +kernel
theorem dL_address_7 : decode cL_address 7 = .ok (.i2l, 1) := by decide +kernel
theorem dL_address_8 : decode cL_address 8 = .ok (.lastore, 1) := by decide +kernel
theorem dL_address_9 : decode cL_address 9 = .ok (.goto 9, 3) := by decide +kernel
theorem dL_address_12 : decode cL_address 12 = .ok (.astore_n 3, 1) := by decide +kernel
theorem dL_address_13 : decode cL_address 13 = .ok (.iconst 1, 1) := by decide +kernel
theorem dL_address_14 : decode cL_address 14 = .ok (.ireturn, 1) := by decide +kernel
theorem dL_address_15 : decode cL_address 15 = .ok (.astore_n 3, 1) := by decide +kernel
theorem dL_address_16 : decode cL_address 16 = .ok (.iconst 2, 1) := by decide +kernel
theorem dL_address_17 : decode cL_address 17 = .ok (.ireturn, 1) := by decide +kernel
theorem dL_address_18 : decode cL_address 18 = .ok (.iconst 0, 1) := by decide +kernel
theorem dL_address_19 : decode cL_address 19 = .ok (.ireturn, 1) := by decide +kernel
theorem dL_align_0 : decode cL_align 0 = .ok (.aload_n 2, 1) := by decide +kernel
theorem dL_align_1 : decode cL_align 1 = .ok (.iconst 0, 1) := by decide +kernel
theorem dL_align_2 : decode cL_align 2 = .ok (.aload_n 0, 1) := by decide +kernel
theorem dL_align_3 : decode cL_align 3 = .ok (.iload_n 1, 1) := by decide +kernel
theorem dL_align_4 : decode cL_align 4 = .ok (.invokevirtual 30, 3) := by decide +kernel
theorem dL_align_7 : decode cL_align 7 = .ok (.i2l, 1) := by decide +kernel
theorem dL_align_8 : decode cL_align 8 = .ok (.lastore, 1) := by decide +kernel
theorem dL_align_9 : decode cL_align 9 = .ok (.goto 9, 3) := by decide +kernel
theorem dL_align_12 : decode cL_align 12 = .ok (.astore_n 3, 1) := by decide +kernel
theorem dL_align_13 : decode cL_align 13 = .ok (.iconst 1, 1) := by decide +kernel
theorem dL_align_14 : decode cL_align 14 = .ok (.ireturn, 1) := by decide +kernel
theorem dL_align_15 : decode cL_align 15 = .ok (.astore_n 3, 1) := by decide +kernel
theorem dL_align_16 : decode cL_align 16 = .ok (.iconst 2, 1) := by decide +kernel
theorem dL_align_17 : decode cL_align 17 = .ok (.ireturn, 1) := by decide +kernel
theorem dL_align_18 : decode cL_align 18 = .ok (.iconst 0, 1) := by decide +kernel
theorem dL_align_19 : decode cL_align 19 = .ok (.ireturn, 1) := by decide +kernel
theorem dL_call_0 : decode cL_call 0 = .ok (.aload 4, 2) := by decide +kernel
theorem dL_call_2 : decode cL_call 2 = .ok (.iconst 0, 1) := by decide +kernel
theorem dL_call_3 : decode cL_call 3 = .ok (.aload_n 0, 1) := by decide +kernel
theorem dL_call_4 : decode cL_call 4 = .ok (.iload_n 1, 1) := by decide +kernel
theorem dL_call_5 : decode cL_call 5 = .ok (.iload_n 2, 1) := by decide +kernel
theorem dL_call_6 : decode cL_call 6 = .ok (.iload_n 3, 1) := by decide +kernel
theorem dL_call_7 : decode cL_call 7 = .ok (.invokevirtual 33, 3) := by decide +kernel
theorem dL_call_10 : decode cL_call 10 = .ok (.i2l, 1) := by decide +kernel
theorem dL_call_11 : decode cL_call 11 = .ok (.lastore, 1) := by decide +kernel
theorem dL_call_12 : decode cL_call 12 = .ok (.goto 15, 3) := by decide +kernel
theorem dL_call_15 : decode cL_call 15 = .ok (.astore 5, 2) := by decide +kernel
theorem dL_call_17 : decode cL_call 17 = .ok (.iconst 1, 1) := by decide +kernel
theorem dL_call_18 : decode cL_call 18 = .ok (.ireturn, 1) := by decide +kernel
theorem dL_call_19 : decode cL_call 19 = .ok (.astore 5, 2) := by decide +kernel
theorem dL_call_21 : decode cL_call 21 = .ok (.iconst 2, 1) := by decide +kernel
theorem dL_call_22 : decode cL_call 22 = .ok (.ireturn, 1) := by decide +kernel
theorem dL_call_23 : decode cL_call 23 = .ok (.astore 5, 2) := by decide +kernel
theorem dL_call_25 : decode cL_call 25 = .ok (.iconst 3, 1) := by decide +kernel
theorem dL_call_26 : decode cL_call 26 = .ok (.ireturn, 1) := by decide +kernel
theorem dL_call_27 : decode cL_call 27 = .ok (.iconst 0, 1) := by decide +kernel
theorem dL_call_28 : decode cL_call 28 = .ok (.ireturn, 1) := by decide +kernel
theorem dL_block_0 : decode cL_block 0 = .ok (.aload_n 1, 1) := by decide +kernel
theorem dL_block_1 : decode cL_block 1 = .ok (.iconst 0, 1) := by decide +kernel
theorem dL_block_2 : decode cL_block 2 = .ok (.aload_n 0, 1) := by decide +kernel
theorem dL_block_3 : decode cL_block 3 = .ok (.invokevirtual 39, 3) := by decide +kernel
theorem dL_block_6 : decode cL_block 6 = .ok (.i2l, 1) := by decide +kernel
theorem dL_block_7 : decode cL_block 7 = .ok (.lastore, 1) := by decide +kernel
theorem dL_block_8 : decode cL_block 8 = .ok (.goto 6, 3) := by decide +kernel
theorem dL_block_11 : decode cL_block 11 = .ok (.astore_n 2, 1) := by decide +kernel
theorem dL_block_12 : decode cL_block 12 = .ok (.iconst 1, 1) := by decide +kernel
theorem dL_block_13 : decode cL_block 13 = .ok (.ireturn, 1) := by decide +kernel
theorem dL_block_14 : decode cL_block 14 = .ok (.iconst 0, 1) := by decide +kernel
theorem dL_block_15 : decode cL_block 15 = .ok (.ireturn, 1) := by decide +kernel
theorem dL_loop_0 : decode cL_loop 0 = .ok (.aload_n 2, 1) := by decide +kernel
theorem dL_loop_1 : decode cL_loop 1 = .ok (.iconst 0, 1) := by decide +kernel
theorem dL_loop_2 : decode cL_loop 2 = .ok (.aload_n 0, 1) := by decide +kernel
theorem dL_loop_3 : decode cL_loop 3 = .ok (.iload_n 1, 1) := by decide +kernel
theorem dL_loop_4 : decode cL_loop 4 = .ok (.invokevirtual 43, 3) := by decide +kernel
theorem dL_loop_7 : decode cL_loop 7 = .ok (.i2l, 1) := by decide +kernel
theorem dL_loop_8 : decode cL_loop 8 = .ok (.lastore, 1) := by decide +kernel
theorem dL_loop_9 : decode cL_loop 9 = .ok (.goto 9, 3) := by decide +kernel
theorem dL_loop_12 : decode cL_loop 12 = .ok (.astore_n 3, 1) := by decide +kernel
theorem dL_loop_13 : decode cL_loop 13 = .ok (.iconst 1, 1) := by decide +kernel
theorem dL_loop_14 : decode cL_loop 14 = .ok (.ireturn, 1) := by decide +kernel
theorem dL_loop_15 : decode cL_loop 15 = .ok (.astore_n 3, 1) := by decide +kernel
theorem dL_loop_16 : decode cL_loop 16 = .ok (.iconst 2, 1) := by decide +kernel
theorem dL_loop_17 : decode cL_loop 17 = .ok (.ireturn, 1) := by decide +kernel
theorem dL_loop_18 : decode cL_loop 18 = .ok (.iconst 0, 1) := by decide +kernel
theorem dL_loop_19 : decode cL_loop 19 = .ok (.ireturn, 1) := by decide +kernel
theorem dL_when_0 : decode cL_when 0 = .ok (.aload_n 3, 1) := by decide +kernel
theorem dL_when_1 : decode cL_when 1 = .ok (.iconst 0, 1) := by decide +kernel
theorem dL_when_2 : decode cL_when 2 = .ok (.aload_n 0, 1) := by decide +kernel
theorem dL_when_3 : decode cL_when 3 = .ok (.iload_n 1, 1) := by decide +kernel
theorem dL_when_4 : decode cL_when 4 = .ok (.iload_n 2, 1) := by decide +kernel
theorem dL_when_5 : decode cL_when 5 = .ok (.invokevirtual 46, 3) := by decide +kernel
theorem dL_when_8 : decode cL_when 8 = .ok (.i2l, 1) := by decide +kernel
theorem dL_when_9 : decode cL_when 9 = .ok (.lastore, 1) := by decide +kernel
theorem dL_when_10 : decode cL_when 10 = .ok (.goto 11, 3) := by decide +kernel
theorem dL_when_13 : decode cL_when 13 = .ok (.astore 4, 2) := by decide +kernel
theorem dL_when_15 : decode cL_when 15 = .ok (.iconst 1, 1) := by decide +kernel
theorem dL_when_16 : decode cL_when 16 = .ok (.ireturn, 1) := by decide +kernel
theorem dL_when_17 : decode cL_when 17 = .ok (.astore 4, 2) := by decide +kernel
theorem dL_when_19 : decode cL_when 19 = .ok (.iconst 2, 1) := by decide +kernel
theorem dL_when_20 : decode cL_when 20 = .ok (.ireturn, 1) := by decide +kernel
theorem dL_when_21 : decode cL_when 21 = .ok (.iconst 0, 1) := by decide +kernel
theorem dL_when_22 : decode cL_when 22 = .ok (.ireturn, 1) := by decide +kernel
theorem dL_end_0 : decode cL_end 0 = .ok (.aload_n 1, 1) := by decide +kernel
theorem dL_end_1 : decode cL_end 1 = .ok (.iconst 0, 1) := by decide +kernel
theorem dL_end_2 : decode cL_end 2 = .ok (.aload_n 0, 1) := by decide +kernel
theorem dL_end_3 : decode cL_end 3 = .ok (.invokevirtual 49, 3) := by decide +kernel
theorem dL_end_6 : decode cL_end 6 = .ok (.i2l, 1) := by decide +kernel
theorem dL_end_7 : decode cL_end 7 = .ok (.lastore, 1) := by decide +kernel
theorem dL_end_8 : decode cL_end 8 = .ok (.goto 9, 3) := by decide +kernel
theorem dL_end_11 : decode cL_end 11 = .ok (.astore_n 2, 1) := by decide +kernel
theorem dL_end_12 : decode cL_end 12 = .ok (.iconst 1, 1) := by decide +kernel
theorem dL_end_13 : decode cL_end 13 = .ok (.ireturn, 1) := by decide +kernel
theorem dL_end_14 : decode cL_end 14 = .ok (.astore_n 2, 1) := by decide +kernel
theorem dL_end_15 : decode cL_end 15 = .ok (.iconst 2, 1) := by decide +kernel
theorem dL_end_16 : decode cL_end 16 = .ok (.ireturn, 1) := by decide +kernel
theorem dL_end_17 : decode cL_end 17 = .ok (.iconst 0, 1) := by decide +kernel
theorem dL_end_18 : decode cL_end 18 = .ok (.ireturn, 1) := by decide +kernel
theorem dL_macro_0 : decode cL_macro 0 = .ok (.aload_n 1, 1) := by decide +kernel
theorem dL_macro_1 : decode cL_macro 1 = .ok (.iconst 0, 1) := by decide +kernel
theorem dL_macro_2 : decode cL_macro 2 = .ok (.aload_n 0, 1) := by decide +kernel
theorem dL_macro_3 : decode cL_macro 3 = .ok (.invokevirtual 54, 3) := by decide +kernel
theorem dL_macro_6 : decode cL_macro 6 = .ok (.i2l, 1) := by decide +kernel
theorem dL_macro_7 : decode cL_macro 7 = .ok (.lastore, 1) := by decide +kernel
theorem dL_macro_8 : decode cL_macro 8 = .ok (.goto 9, 3) := by decide +kernel
theorem dL_macro_11 : decode cL_macro 11 = .ok (.astore_n 2, 1) := by decide +kernel
theorem dL_macro_12 : decode cL_macro 12 = .ok (.iconst 1, 1) := by decide +kernel
theorem dL_macro_13 : decode cL_macro 13 = .ok (.ireturn, 1) := by decide +kernel
theorem dL_macro_14 : decode cL_macro 14 = .ok (.astore_n 2, 1) := by decide +kernel
theorem dL_macro_15 : decode cL_macro 15 = .ok (.iconst 2, 1) := by decide +kernel
theorem dL_macro_16 : decode cL_macro 16 = .ok (.ireturn, 1) := by decide +kernel
theorem dL_macro_17 : decode cL_macro 17 = .ok (.iconst 0, 1) := by decide +kernel
theorem dL_macro_18 : decode cL_macro 18 = .ok (.ireturn, 1) := by decide +kernel
theorem dL_endMacro_0 : decode cL_endMacro 0 = .ok (.aload_n 1, 1) := by decide +kernel
theorem dL_endMacro_1 : decode cL_endMacro 1 = .ok (.iconst 0, 1) := by decide +kernel
theorem dL_endMacro_2 : decode cL_endMacro 2 = .ok (.aload_n 0, 1) := by decide +kernel
theorem dL_endMacro_3 : decode cL_endMacro 3 = .ok (.invokevirtual 57, 3) := by decide +kernel
theorem dL_endMacro_6 : decode cL_endMacro 6 = .ok (.i2l, 1) := by decide +kernel
theorem dL_endMacro_7 : decode cL_endMacro 7 = .ok (.lastore, 1) := by decide +kernel
theorem dL_endMacro_8 : decode cL_endMacro 8 = .ok (.goto 9, 3) := by decide +kernel
theorem dL_endMacro_11 : decode cL_endMacro 11 = .ok (.astore_n 2, 1) := by decide +kernel
theorem dL_endMacro_12 : decode cL_endMacro 12 = .ok (.iconst 1, 1) := by decide +kernel
theorem dL_endMacro_13 : decode cL_endMacro 13 = .ok (.ireturn, 1) := by decide +kernel
theorem dL_endMacro_14 : decode cL_endMacro 14 = .ok (.astore_n 2, 1) := by decide +kernel
theorem dL_endMacro_15 : decode cL_endMacro 15 = .ok (.iconst 2, 1) := by decide +kernel
theorem dL_endMacro_16 : decode cL_endMacro 16 = .ok (.ireturn, 1) := by decide +kernel
theorem dL_endMacro_17 : decode cL_endMacro 17 = .ok (.iconst 0, 1) := by decide +kernel
theorem dL_endMacro_18 : decode cL_endMacro 18 = .ok (.ireturn, 1) := by decide +kernel
theorem dL_fault_0 : decode cL_fault 0 = .ok (.aload_n 1, 1) := by decide +kernel
theorem dL_fault_1 : decode cL_fault 1 = .ok (.iconst 0, 1) := by decide +kernel
theorem dL_fault_2 : decode cL_fault 2 = .ok (.aload_n 0, 1) := by decide +kernel
theorem dL_fault_3 : decode cL_fault 3 = .ok (.invokevirtual 60, 3) := by decide +kernel
theorem dL_fault_6 : decode cL_fault 6 = .ok (.i2l, 1) := by decide +kernel
theorem dL_fault_7 : decode cL_fault 7 = .ok (.lastore, 1) := by decide +kernel
theorem dL_fault_8 : decode cL_fault 8 = .ok (.goto 6, 3) := by decide +kernel
theorem dL_fault_11 : decode cL_fault 11 = .ok (.astore_n 2, 1) := by decide +kernel
theorem dL_fault_12 : decode cL_fault 12 = .ok (.iconst 1, 1) := by decide +kernel
theorem dL_fault_13 : decode cL_fault 13 = .ok (.ireturn, 1) := by decide +kernel
theorem dL_fault_14 : decode cL_fault 14 = .ok (.iconst 0, 1) := by decide +kernel
theorem dL_fault_15 : decode cL_fault 15 = .ok (.ireturn, 1) := by decide +kernel
theorem dL_faultLine_0 : decode cL_faultLine 0 = .ok (.aload_n 1, 1) := by decide +kernel
theorem dL_faultLine_1 : decode cL_faultLine 1 = .ok (.iconst 0, 1) := by decide +kernel
theorem dL_faultLine_2 : decode cL_faultLine 2 = .ok (.aload_n 0, 1) := by decide +kernel
theorem dL_faultLine_3 : decode cL_faultLine 3 = .ok (.invokevirtual 64, 3) := by decide +kernel
theorem dL_faultLine_6 : decode cL_faultLine 6 = .ok (.i2l, 1) := by decide +kernel
theorem dL_faultLine_7 : decode cL_faultLine 7 = .ok (.lastore, 1) := by decide +kernel
theorem dL_faultLine_8 : decode cL_faultLine 8 = .ok (.goto 6, 3) := by decide +kernel
theorem dL_faultLine_11 : decode cL_faultLine 11 = .ok (.astore_n 2, 1) := by decide +kernel
theorem dL_faultLine_12 : decode cL_faultLine 12 = .ok (.iconst 1, 1) := by decide +kernel
theorem dL_faultLine_13 : decode cL_faultLine 13 = .ok (.ireturn, 1) := by decide +kernel
theorem dL_faultLine_14 : decode cL_faultLine 14 = .ok (.iconst 0, 1) := by decide +kernel
theorem dL_faultLine_15 : decode cL_faultLine 15 = .ok (.ireturn, 1) := by decide +kernel
theorem dL_itemsByCounting_0 : decode cL_itemsByCounting 0 = .ok (.aload_n 1, 1) := by decide +kernel
theorem dL_itemsByCounting_1 : decode cL_itemsByCounting 1 = .ok (.iconst 0, 1) := by decide +kernel
theorem dL_itemsByCounting_2 : decode cL_itemsByCounting 2 = .ok (.aload_n 0, 1) := by decide +kernel
theorem dL_itemsByCounting_3 : decode cL_itemsByCounting 3 = .ok (.invokevirtual 67, 3) := by decide +kernel
theorem dL_itemsByCounting_6 : decode cL_itemsByCounting 6 = .ok (.lastore, 1) := by decide +kernel
theorem dL_itemsByCounting_7 : decode cL_itemsByCounting 7 = .ok (.goto 9, 3) := by decide +kernel
theorem dL_itemsByCounting_10 : decode cL_itemsByCounting 10 = .ok (.astore_n 2, 1) := by decide +kernel
theorem dL_itemsByCounting_11 : decode cL_itemsByCounting 11 = .ok (.iconst 1, 1) := by decide +kernel
theorem dL_itemsByCounting_12 : decode cL_itemsByCounting 12 = .ok (.ireturn, 1) := by decide +kernel
theorem dL_itemsByCounting_13 : decode cL_itemsByCounting 13 = .ok (.astore_n 2, 1) := by decide +kernel
theorem dL_itemsByCounting_14 : decode cL_itemsByCounting 14 = .ok (.iconst 2, 1) := by decide +kernel
theorem dL_itemsByCounting_15 : decode cL_itemsByCounting 15 = .ok (.ireturn, 1) := by decide +kernel
theorem dL_itemsByCounting_16 : decode cL_itemsByCounting 16 = .ok (.iconst 0, 1) := by decide +kernel
theorem dL_itemsByCounting_17 : decode cL_itemsByCounting 17 = .ok (.ireturn, 1) := by decide +kernel
theorem dL_words_0 : decode cL_words 0 = .ok (.aload_n 1, 1) := by decide +kernel
theorem dL_words_1 : decode cL_words 1 = .ok (.iconst 0, 1) := by decide +kernel
theorem dL_words_2 : decode cL_words 2 = .ok (.aload_n 0, 1) := by decide +kernel
theorem dL_words_3 : decode cL_words 3 = .ok (.invokevirtual 71, 3) := by decide +kernel
theorem dL_words_6 : decode cL_words 6 = .ok (.i2l, 1) := by decide +kernel
theorem dL_words_7 : decode cL_words 7 = .ok (.lastore, 1) := by decide +kernel
theorem dL_words_8 : decode cL_words 8 = .ok (.goto 6, 3) := by decide +kernel
theorem dL_words_11 : decode cL_words 11 = .ok (.astore_n 2, 1) := by decide +kernel
theorem dL_words_12 : decode cL_words 12 = .ok (.iconst 1, 1) := by decide +kernel
theorem dL_words_13 : decode cL_words 13 = .ok (.ireturn, 1) := by decide +kernel
theorem dL_words_14 : decode cL_words 14 = .ok (.iconst 0, 1) := by decide +kernel
theorem dL_words_15 : decode cL_words 15 = .ok (.ireturn, 1) := by decide +kernel
theorem dL_wordAt_0 : decode cL_wordAt 0 = .ok (.aload_n 2, 1) := by decide +kernel
theorem dL_wordAt_1 : decode cL_wordAt 1 = .ok (.iconst 0, 1) := by decide +kernel
theorem dL_wordAt_2 : decode cL_wordAt 2 = .ok (.aload_n 0, 1) := by decide +kernel
theorem dL_wordAt_3 : decode cL_wordAt 3 = .ok (.iload_n 1, 1) := by decide +kernel
theorem dL_wordAt_4 : decode cL_wordAt 4 = .ok (.invokevirtual 74, 3) := by decide +kernel
theorem dL_wordAt_7 : decode cL_wordAt 7 = .ok (.i2l, 1) := by decide +kernel
theorem dL_wordAt_8 : decode cL_wordAt 8 = .ok (.lastore, 1) := by decide +kernel
theorem dL_wordAt_9 : decode cL_wordAt 9 = .ok (.goto 9, 3) := by decide +kernel
theorem dL_wordAt_12 : decode cL_wordAt 12 = .ok (.astore_n 3, 1) := by decide +kernel
theorem dL_wordAt_13 : decode cL_wordAt 13 = .ok (.iconst 1, 1) := by decide +kernel
theorem dL_wordAt_14 : decode cL_wordAt 14 = .ok (.ireturn, 1) := by decide +kernel
theorem dL_wordAt_15 : decode cL_wordAt 15 = .ok (.astore_n 3, 1) := by decide +kernel
theorem dL_wordAt_16 : decode cL_wordAt 16 = .ok (.iconst 2, 1) := by decide +kernel
theorem dL_wordAt_17 : decode cL_wordAt 17 = .ok (.ireturn, 1) := by decide +kernel
theorem dL_wordAt_18 : decode cL_wordAt 18 = .ok (.iconst 0, 1) := by decide +kernel
theorem dL_wordAt_19 : decode cL_wordAt 19 = .ok (.ireturn, 1) := by decide +kernel
theorem dL_relocations_0 : decode cL_relocations 0 = .ok (.aload_n 1, 1) := by decide +kernel
theorem dL_relocations_1 : decode cL_relocations 1 = .ok (.iconst 0, 1) := by decide +kernel
theorem dL_relocations_2 : decode cL_relocations 2 = .ok (.aload_n 0, 1) := by decide +kernel
theorem dL_relocations_3 : decode cL_relocations 3 = .ok (.invokevirtual 79, 3) := by decide +kernel
theorem dL_relocations_6 : decode cL_relocations 6 = .ok (.i2l, 1) := by decide +kernel
theorem dL_relocations_7 : decode cL_relocations 7 = .ok (.lastore, 1) := by decide +kernel
theorem dL_relocations_8 : decode cL_relocations 8 = .ok (.goto 6, 3) := by decide +kernel
theorem dL_relocations_11 : decode cL_relocations 11 = .ok (.astore_n 2, 1) := by decide +kernel
theorem dL_relocations_12 : decode cL_relocations 12 = .ok (.iconst 1, 1) := by decide +kernel
theorem dL_relocations_13 : decode cL_relocations 13 = .ok (.ireturn, 1) := by decide +kernel
theorem dL_relocations_14 : decode cL_relocations 14 = .ok (.iconst 0, 1) := by decide +kernel
theorem dL_relocations_15 : decode cL_relocations 15 = .ok (.ireturn, 1) := by decide +kernel
theorem dL_loadedWord_0 : decode cL_loadedWord 0 = .ok (.aload_n 3, 1) := by decide +kernel
theorem dL_loadedWord_1 : decode cL_loadedWord 1 = .ok (.iconst 0, 1) := by decide +kernel
theorem dL_loadedWord_2 : decode cL_loadedWord 2 = .ok (.aload_n 0, 1) := by decide +kernel
theorem dL_loadedWord_3 : decode cL_loadedWord 3 = .ok (.iload_n 1, 1) := by decide +kernel
theorem dL_loadedWord_4 : decode cL_loadedWord 4 = .ok (.iload_n 2, 1) := by decide +kernel
theorem dL_loadedWord_5 : decode cL_loadedWord 5 = .ok (.invokevirtual 82, 3) := by decide +kernel
theorem dL_loadedWord_8 : decode cL_loadedWord 8 = .ok (.i2l, 1) := by decide +kernel
theorem dL_loadedWord_9 : decode cL_loadedWord 9 = .ok (.lastore, 1) := by decide +kernel
theorem dL_loadedWord_10 : decode cL_loadedWord 10 = .ok (.goto 15, 3) := by decide +kernel
theorem dL_loadedWord_13 : decode cL_loadedWord 13 = .ok (.astore 4, 2) := by decide +kernel
theorem dL_loadedWord_15 : decode cL_loadedWord 15 = .ok (.iconst 1, 1) := by decide +kernel
theorem dL_loadedWord_16 : decode cL_loadedWord 16 = .ok (.ireturn, 1) := by decide +kernel
theorem dL_loadedWord_17 : decode cL_loadedWord 17 = .ok (.astore 4, 2) := by decide +kernel
theorem dL_loadedWord_19 : decode cL_loadedWord 19 = .ok (.iconst 2, 1) := by decide +kernel
theorem dL_loadedWord_20 : decode cL_loadedWord 20 = .ok (.ireturn, 1) := by decide +kernel
theorem dL_loadedWord_21 : decode cL_loadedWord 21 = .ok (.astore 4, 2) := by decide +kernel
theorem dL_loadedWord_23 : decode cL_loadedWord 23 = .ok (.iconst 3, 1) := by decide +kernel
theorem dL_loadedWord_24 : decode cL_loadedWord 24 = .ok (.ireturn, 1) := by decide +kernel
theorem dL_loadedWord_25 : decode cL_loadedWord 25 = .ok (.iconst 0, 1) := by decide +kernel
theorem dL_loadedWord_26 : decode cL_loadedWord 26 = .ok (.ireturn, 1) := by decide +kernel
theorem dL_labelAddress_0 : decode cL_labelAddress 0 = .ok (.aload_n 2, 1) := by decide +kernel
theorem dL_labelAddress_1 : decode cL_labelAddress 1 = .ok (.iconst 0, 1) := by decide +kernel
theorem dL_labelAddress_2 : decode cL_labelAddress 2 = .ok (.aload_n 0, 1) := by decide +kernel
theorem dL_labelAddress_3 : decode cL_labelAddress 3 = .ok (.iload_n 1, 1) := by decide +kernel
theorem dL_labelAddress_4 : decode cL_labelAddress 4 = .ok (.invokevirtual 85, 3) := by decide +kernel
theorem dL_labelAddress_7 : decode cL_labelAddress 7 = .ok (.i2l, 1) := by decide +kernel
theorem dL_labelAddress_8 : decode cL_labelAddress 8 = .ok (.lastore, 1) := by decide +kernel
theorem dL_labelAddress_9 : decode cL_labelAddress 9 = .ok (.goto 6, 3) := by decide +kernel
theorem dL_labelAddress_12 : decode cL_labelAddress 12 = .ok (.astore_n 3, 1) := by decide +kernel
theorem dL_labelAddress_13 : decode cL_labelAddress 13 = .ok (.iconst 1, 1) := by decide +kernel
theorem dL_labelAddress_14 : decode cL_labelAddress 14 = .ok (.ireturn, 1) := by decide +kernel
theorem dL_labelAddress_15 : decode cL_labelAddress 15 = .ok (.iconst 0, 1) := by decide +kernel
theorem dL_labelAddress_16 : decode cL_labelAddress 16 = .ok (.ireturn, 1) := by decide +kernel
theorem dL_passes_0 : decode cL_passes 0 = .ok (.aload_n 1, 1) := by decide +kernel
theorem dL_passes_1 : decode cL_passes 1 = .ok (.iconst 0, 1) := by decide +kernel
theorem dL_passes_2 : decode cL_passes 2 = .ok (.aload_n 0, 1) := by decide +kernel
theorem dL_passes_3 : decode cL_passes 3 = .ok (.invokevirtual 88, 3) := by decide +kernel
theorem dL_passes_6 : decode cL_passes 6 = .ok (.i2l, 1) := by decide +kernel
theorem dL_passes_7 : decode cL_passes 7 = .ok (.lastore, 1) := by decide +kernel
theorem dL_passes_8 : decode cL_passes 8 = .ok (.goto 6, 3) := by decide +kernel
theorem dL_passes_11 : decode cL_passes 11 = .ok (.astore_n 2, 1) := by decide +kernel
theorem dL_passes_12 : decode cL_passes 12 = .ok (.iconst 1, 1) := by decide +kernel
theorem dL_passes_13 : decode cL_passes 13 = .ok (.ireturn, 1) := by decide +kernel
theorem dL_passes_14 : decode cL_passes 14 = .ok (.iconst 0, 1) := by decide +kernel
theorem dL_passes_15 : decode cL_passes 15 = .ok (.ireturn, 1) := by decide +kernel
theorem dL_longJumps_0 : decode cL_longJumps 0 = .ok (.aload_n 1, 1) := by decide +kernel
theorem dL_longJumps_1 : decode cL_longJumps 1 = .ok (.iconst 0, 1) := by decide +kernel
theorem dL_longJumps_2 : decode cL_longJumps 2 = .ok (.aload_n 0, 1) := by decide +kernel
theorem dL_longJumps_3 : decode cL_longJumps 3 = .ok (.invokevirtual 91, 3) := by decide +kernel
theorem dL_longJumps_6 : decode cL_longJumps 6 = .ok (.i2l, 1) := by decide +kernel
theorem dL_longJumps_7 : decode cL_longJumps 7 = .ok (.lastore, 1) := by decide +kernel
theorem dL_longJumps_8 : decode cL_longJumps 8 = .ok (.goto 6, 3) := by decide +kernel
theorem dL_longJumps_11 : decode cL_longJumps 11 = .ok (.astore_n 2, 1) := by decide +kernel
theorem dL_longJumps_12 : decode cL_longJumps 12 = .ok (.iconst 1, 1) := by decide +kernel
theorem dL_longJumps_13 : decode cL_longJumps 13 = .ok (.ireturn, 1) := by decide +kernel
theorem dL_longJumps_14 : decode cL_longJumps 14 = .ok (.iconst 0, 1) := by decide +kernel
theorem dL_longJumps_15 : decode cL_longJumps 15 = .ok (.ireturn, 1) := by decide +kernel
theorem dL_items_0 : decode cL_items 0 = .ok (.aload_n 1, 1) := by decide +kernel
theorem dL_items_1 : decode cL_items 1 = .ok (.iconst 0, 1) := by decide +kernel
theorem dL_items_2 : decode cL_items 2 = .ok (.aload_n 0, 1) := by decide +kernel
theorem dL_items_3 : decode cL_items 3 = .ok (.invokevirtual 94, 3) := by decide +kernel
theorem dL_items_6 : decode cL_items 6 = .ok (.i2l, 1) := by decide +kernel
theorem dL_items_7 : decode cL_items 7 = .ok (.lastore, 1) := by decide +kernel
theorem dL_items_8 : decode cL_items 8 = .ok (.goto 6, 3) := by decide +kernel
theorem dL_items_11 : decode cL_items 11 = .ok (.astore_n 2, 1) := by decide +kernel
theorem dL_items_12 : decode cL_items 12 = .ok (.iconst 1, 1) := by decide +kernel
theorem dL_items_13 : decode cL_items 13 = .ok (.ireturn, 1) := by decide +kernel
theorem dL_items_14 : decode cL_items 14 = .ok (.iconst 0, 1) := by decide +kernel
theorem dL_items_15 : decode cL_items 15 = .ok (.ireturn, 1) := by decide +kernel
theorem dL_lineOf_0 : decode cL_lineOf 0 = .ok (.aload_n 2, 1) := by decide +kernel
theorem dL_lineOf_1 : decode cL_lineOf 1 = .ok (.iconst 0, 1) := by decide +kernel
theorem dL_lineOf_2 : decode cL_lineOf 2 = .ok (.aload_n 0, 1) := by decide +kernel
theorem dL_lineOf_3 : decode cL_lineOf 3 = .ok (.iload_n 1, 1) := by decide +kernel
theorem dL_lineOf_4 : decode cL_lineOf 4 = .ok (.invokevirtual 97, 3) := by decide +kernel
theorem dL_lineOf_7 : decode cL_lineOf 7 = .ok (.i2l, 1) := by decide +kernel
theorem dL_lineOf_8 : decode cL_lineOf 8 = .ok (.lastore, 1) := by decide +kernel
theorem dL_lineOf_9 : decode cL_lineOf 9 = .ok (.goto 9, 3) := by decide +kernel
theorem dL_lineOf_12 : decode cL_lineOf 12 = .ok (.astore_n 3, 1) := by decide +kernel
theorem dL_lineOf_13 : decode cL_lineOf 13 = .ok (.iconst 1, 1) := by decide +kernel
theorem dL_lineOf_14 : decode cL_lineOf 14 = .ok (.ireturn, 1) := by decide +kernel
theorem dL_lineOf_15 : decode cL_lineOf 15 = .ok (.astore_n 3, 1) := by decide +kernel
theorem dL_lineOf_16 : decode cL_lineOf 16 = .ok (.iconst 2, 1) := by decide +kernel
theorem dL_lineOf_17 : decode cL_lineOf 17 = .ok (.ireturn, 1) := by decide +kernel
theorem dL_lineOf_18 : decode cL_lineOf 18 = .ok (.iconst 0, 1) := by decide +kernel
theorem dL_lineOf_19 : decode cL_lineOf 19 = .ok (.ireturn, 1) := by decide +kernel
theorem dL_kindOf_0 : decode cL_kindOf 0 = .ok (.aload_n 2, 1) := by decide +kernel
theorem dL_kindOf_1 : decode cL_kindOf 1 = .ok (.iconst 0, 1) := by decide +kernel
theorem dL_kindOf_2 : decode cL_kindOf 2 = .ok (.aload_n 0, 1) := by decide +kernel
theorem dL_kindOf_3 : decode cL_kindOf 3 = .ok (.iload_n 1, 1) := by decide +kernel
theorem dL_kindOf_4 : decode cL_kindOf 4 = .ok (.invokevirtual 100, 3) := by decide +kernel
theorem dL_kindOf_7 : decode cL_kindOf 7 = .ok (.i2l, 1) := by decide +kernel
theorem dL_kindOf_8 : decode cL_kindOf 8 = .ok (.lastore, 1) := by decide +kernel
theorem dL_kindOf_9 : decode cL_kindOf 9 = .ok (.goto 9, 3) := by decide +kernel
theorem dL_kindOf_12 : decode cL_kindOf 12 = .ok (.astore_n 3, 1) := by decide +kernel
theorem dL_kindOf_13 : decode cL_kindOf 13 = .ok (.iconst 1, 1) := by decide +kernel
theorem dL_kindOf_14 : decode cL_kindOf 14 = .ok (.ireturn, 1) := by decide +kernel
theorem dL_kindOf_15 : decode cL_kindOf 15 = .ok (.astore_n 3, 1) := by decide +kernel
theorem dL_kindOf_16 : decode cL_kindOf 16 = .ok (.iconst 2, 1) := by decide +kernel
theorem dL_kindOf_17 : decode cL_kindOf 17 = .ok (.ireturn, 1) := by decide +kernel
theorem dL_kindOf_18 : decode cL_kindOf 18 = .ok (.iconst 0, 1) := by decide +kernel
theorem dL_kindOf_19 : decode cL_kindOf 19 = .ok (.ireturn, 1) := by decide +kernel
theorem dL_depthOf_0 : decode cL_depthOf 0 = .ok (.aload_n 2, 1) := by decide +kernel
theorem dL_depthOf_1 : decode cL_depthOf 1 = .ok (.iconst 0, 1) := by decide +kernel
theorem dL_depthOf_2 : decode cL_depthOf 2 = .ok (.aload_n 0, 1) := by decide +kernel
theorem dL_depthOf_3 : decode cL_depthOf 3 = .ok (.iload_n 1, 1) := by decide +kernel
theorem dL_depthOf_4 : decode cL_depthOf 4 = .ok (.invokevirtual 104, 3) := by decide +kernel
theorem dL_depthOf_7 : decode cL_depthOf 7 = .ok (.i2l, 1) := by decide +kernel
theorem dL_depthOf_8 : decode cL_depthOf 8 = .ok (.lastore, 1) := by decide +kernel
theorem dL_depthOf_9 : decode cL_depthOf 9 = .ok (.goto 9, 3) := by decide +kernel
theorem dL_depthOf_12 : decode cL_depthOf 12 = .ok (.astore_n 3, 1) := by decide +kernel
theorem dL_depthOf_13 : decode cL_depthOf 13 = .ok (.iconst 1, 1) := by decide +kernel
theorem dL_depthOf_14 : decode cL_depthOf 14 = .ok (.ireturn, 1) := by decide +kernel
theorem dL_depthOf_15 : decode cL_depthOf 15 = .ok (.astore_n 3, 1) := by decide +kernel
theorem dL_depthOf_16 : decode cL_depthOf 16 = .ok (.iconst 2, 1) := by decide +kernel
theorem dL_depthOf_17 : decode cL_depthOf 17 = .ok (.ireturn, 1) := by decide +kernel
theorem dL_depthOf_18 : decode cL_depthOf 18 = .ok (.iconst 0, 1) := by decide +kernel
theorem dL_depthOf_19 : decode cL_depthOf 19 = .ok (.ireturn, 1) := by decide +kernel
theorem dL_addressOf_0 : decode cL_addressOf 0 = .ok (.aload_n 2, 1) := by decide +kernel
theorem dL_addressOf_1 : decode cL_addressOf 1 = .ok (.iconst 0, 1) := by decide +kernel
theorem dL_addressOf_2 : decode cL_addressOf 2 = .ok (.aload_n 0, 1) := by decide +kernel
theorem dL_addressOf_3 : decode cL_addressOf 3 = .ok (.iload_n 1, 1) := by decide +kernel
theorem dL_addressOf_4 : decode cL_addressOf 4 = .ok (.invokevirtual 107, 3) := by decide +kernel
theorem dL_addressOf_7 : decode cL_addressOf 7 = .ok (.i2l, 1) := by decide +kernel
theorem dL_addressOf_8 : decode cL_addressOf 8 = .ok (.lastore, 1) := by decide +kernel
theorem dL_addressOf_9 : decode cL_addressOf 9 = .ok (.goto 9, 3) := by decide +kernel
theorem dL_addressOf_12 : decode cL_addressOf 12 = .ok (.astore_n 3, 1) := by decide +kernel
theorem dL_addressOf_13 : decode cL_addressOf 13 = .ok (.iconst 1, 1) := by decide +kernel
theorem dL_addressOf_14 : decode cL_addressOf 14 = .ok (.ireturn, 1) := by decide +kernel
theorem dL_addressOf_15 : decode cL_addressOf 15 = .ok (.astore_n 3, 1) := by decide +kernel
theorem dL_addressOf_16 : decode cL_addressOf 16 = .ok (.iconst 2, 1) := by decide +kernel
theorem dL_addressOf_17 : decode cL_addressOf 17 = .ok (.ireturn, 1) := by decide +kernel
theorem dL_addressOf_18 : decode cL_addressOf 18 = .ok (.iconst 0, 1) := by decide +kernel
theorem dL_addressOf_19 : decode cL_addressOf 19 = .ok (.ireturn, 1) := by decide +kernel
theorem dL_addressByAdding_0 : decode cL_addressByAdding 0 = .ok (.aload_n 2, 1) := by decide +kernel
theorem dL_addressByAdding_1 : decode cL_addressByAdding 1 = .ok (.iconst 0, 1) := by decide +kernel
theorem dL_addressByAdding_2 : decode cL_addressByAdding 2 = .ok (.aload_n 0, 1) := by decide +kernel
theorem dL_addressByAdding_3 : decode cL_addressByAdding 3 = .ok (.iload_n 1, 1) := by decide +kernel
theorem dL_addressByAdding_4 : decode cL_addressByAdding 4 = .ok (.invokevirtual 110, 3) := by decide +kernel
theorem dL_addressByAdding_7 : decode cL_addressByAdding 7 = .ok (.i2l, 1) := by decide +kernel
theorem dL_addressByAdding_8 : decode cL_addressByAdding 8 = .ok (.lastore, 1) := by decide +kernel
theorem dL_addressByAdding_9 : decode cL_addressByAdding 9 = .ok (.goto 9, 3) := by decide +kernel
theorem dL_addressByAdding_12 : decode cL_addressByAdding 12 = .ok (.astore_n 3, 1) := by decide +kernel
theorem dL_addressByAdding_13 : decode cL_addressByAdding 13 = .ok (.iconst 1, 1) := by decide +kernel
theorem dL_addressByAdding_14 : decode cL_addressByAdding 14 = .ok (.ireturn, 1) := by decide +kernel
theorem dL_addressByAdding_15 : decode cL_addressByAdding 15 = .ok (.astore_n 3, 1) := by decide +kernel
theorem dL_addressByAdding_16 : decode cL_addressByAdding 16 = .ok (.iconst 2, 1) := by decide +kernel
theorem dL_addressByAdding_17 : decode cL_addressByAdding 17 = .ok (.ireturn, 1) := by decide +kernel
theorem dL_addressByAdding_18 : decode cL_addressByAdding 18 = .ok (.iconst 0, 1) := by decide +kernel
theorem dL_addressByAdding_19 : decode cL_addressByAdding 19 = .ok (.ireturn, 1) := by decide +kernel
theorem dL_targetOf_0 : decode cL_targetOf 0 = .ok (.aload_n 2, 1) := by decide +kernel
theorem dL_targetOf_1 : decode cL_targetOf 1 = .ok (.iconst 0, 1) := by decide +kernel
theorem dL_targetOf_2 : decode cL_targetOf 2 = .ok (.aload_n 0, 1) := by decide +kernel
theorem dL_targetOf_3 : decode cL_targetOf 3 = .ok (.iload_n 1, 1) := by decide +kernel
theorem dL_targetOf_4 : decode cL_targetOf 4 = .ok (.invokevirtual 113, 3) := by decide +kernel
theorem dL_targetOf_7 : decode cL_targetOf 7 = .ok (.i2l, 1) := by decide +kernel
theorem dL_targetOf_8 : decode cL_targetOf 8 = .ok (.lastore, 1) := by decide +kernel
theorem dL_targetOf_9 : decode cL_targetOf 9 = .ok (.goto 12, 3) := by decide +kernel
theorem dL_targetOf_12 : decode cL_targetOf 12 = .ok (.astore_n 3, 1) := by decide +kernel
theorem dL_targetOf_13 : decode cL_targetOf 13 = .ok (.iconst 1, 1) := by decide +kernel
theorem dL_targetOf_14 : decode cL_targetOf 14 = .ok (.ireturn, 1) := by decide +kernel
theorem dL_targetOf_15 : decode cL_targetOf 15 = .ok (.astore_n 3, 1) := by decide +kernel
theorem dL_targetOf_16 : decode cL_targetOf 16 = .ok (.iconst 2, 1) := by decide +kernel
theorem dL_targetOf_17 : decode cL_targetOf 17 = .ok (.ireturn, 1) := by decide +kernel
theorem dL_targetOf_18 : decode cL_targetOf 18 = .ok (.astore_n 3, 1) := by decide +kernel
theorem dL_targetOf_19 : decode cL_targetOf 19 = .ok (.iconst 3, 1) := by decide +kernel
theorem dL_targetOf_20 : decode cL_targetOf 20 = .ok (.ireturn, 1) := by decide +kernel
theorem dL_targetOf_21 : decode cL_targetOf 21 = .ok (.iconst 0, 1) := by decide +kernel
theorem dL_targetOf_22 : decode cL_targetOf 22 = .ok (.ireturn, 1) := by decide +kernel
theorem dL_shortShare_0 : decode cL_shortShare 0 = .ok (.aload_n 1, 1) := by decide +kernel
theorem dL_shortShare_1 : decode cL_shortShare 1 = .ok (.iconst 0, 1) := by decide +kernel
theorem dL_shortShare_2 : decode cL_shortShare 2 = .ok (.aload_n 0, 1) := by decide +kernel
theorem dL_shortShare_3 : decode cL_shortShare 3 = .ok (.invokevirtual 116, 3) := by decide +kernel
theorem dL_shortShare_6 : decode cL_shortShare 6 = .ok (.f2d, 1) := by decide +kernel
theorem dL_shortShare_7 : decode cL_shortShare 7 = .ok (.dastore, 1) := by decide +kernel
theorem dL_shortShare_8 : decode cL_shortShare 8 = .ok (.goto 9, 3) := by decide +kernel
theorem dL_shortShare_11 : decode cL_shortShare 11 = .ok (.astore_n 2, 1) := by decide +kernel
theorem dL_shortShare_12 : decode cL_shortShare 12 = .ok (.iconst 1, 1) := by decide +kernel
theorem dL_shortShare_13 : decode cL_shortShare 13 = .ok (.ireturn, 1) := by decide +kernel
theorem dL_shortShare_14 : decode cL_shortShare 14 = .ok (.astore_n 2, 1) := by decide +kernel
theorem dL_shortShare_15 : decode cL_shortShare 15 = .ok (.iconst 2, 1) := by decide +kernel
theorem dL_shortShare_16 : decode cL_shortShare 16 = .ok (.ireturn, 1) := by decide +kernel
theorem dL_shortShare_17 : decode cL_shortShare 17 = .ok (.iconst 0, 1) := by decide +kernel
theorem dL_shortShare_18 : decode cL_shortShare 18 = .ok (.ireturn, 1) := by decide +kernel
theorem dL_meanWord_0 : decode cL_meanWord 0 = .ok (.aload_n 1, 1) := by decide +kernel
theorem dL_meanWord_1 : decode cL_meanWord 1 = .ok (.iconst 0, 1) := by decide +kernel
theorem dL_meanWord_2 : decode cL_meanWord 2 = .ok (.aload_n 0, 1) := by decide +kernel
theorem dL_meanWord_3 : decode cL_meanWord 3 = .ok (.invokevirtual 122, 3) := by decide +kernel
theorem dL_meanWord_6 : decode cL_meanWord 6 = .ok (.dastore, 1) := by decide +kernel
theorem dL_meanWord_7 : decode cL_meanWord 7 = .ok (.goto 9, 3) := by decide +kernel
theorem dL_meanWord_10 : decode cL_meanWord 10 = .ok (.astore_n 2, 1) := by decide +kernel
theorem dL_meanWord_11 : decode cL_meanWord 11 = .ok (.iconst 1, 1) := by decide +kernel
theorem dL_meanWord_12 : decode cL_meanWord 12 = .ok (.ireturn, 1) := by decide +kernel
theorem dL_meanWord_13 : decode cL_meanWord 13 = .ok (.astore_n 2, 1) := by decide +kernel
theorem dL_meanWord_14 : decode cL_meanWord 14 = .ok (.iconst 2, 1) := by decide +kernel
theorem dL_meanWord_15 : decode cL_meanWord 15 = .ok (.ireturn, 1) := by decide +kernel
theorem dL_meanWord_16 : decode cL_meanWord 16 = .ok (.iconst 0, 1) := by decide +kernel
theorem dL_meanWord_17 : decode cL_meanWord 17 = .ok (.ireturn, 1) := by decide +kernel
theorem dL_law_0 : decode cL_law 0 = .ok (.new 8, 3) := by decide +kernel
theorem dL_law_3 : decode cL_law 3 = .ok (.dup, 1) := by decide +kernel
theorem dL_law_4 : decode cL_law 4 = .ok (.invokespecial 126, 3) := by decide +kernel
theorem dL_law_7 : decode cL_law 7 = .ok (.astore_n 1, 1) := by decide +kernel
theorem dL_law_8 : decode cL_law 8 = .ok (.new 127, 3) := by decide +kernel
theorem dL_law_11 : decode cL_law 11 = .ok (.dup, 1) := by decide +kernel
theorem dL_law_12 : decode cL_law 12 = .ok (.invokespecial 129, 3) := by decide +kernel
theorem dL_law_15 : decode cL_law 15 = .ok (.astore_n 2, 1) := by decide +kernel
theorem dL_law_16 : decode cL_law 16 = .ok (.iconst 1, 1) := by decide +kernel
theorem dL_law_17 : decode cL_law 17 = .ok (.newarray .long, 2) := by decide +kernel
theorem dL_law_19 : decode cL_law 19 = .ok (.astore_n 3, 1) := by decide +kernel
theorem dL_law_20 : decode cL_law 20 = .ok (.iconst 1, 1) := by decide +kernel
theorem dL_law_21 : decode cL_law 21 = .ok (.newarray .double, 2) := by decide +kernel
theorem dL_law_23 : decode cL_law 23 = .ok (.astore 4, 2) := by decide +kernel
theorem dL_law_25 : decode cL_law 25 = .ok (.iconst 0, 1) := by decide +kernel
theorem dL_law_26 : decode cL_law 26 = .ok (.istore 5, 2) := by decide +kernel
theorem dL_law_28 : decode cL_law 28 = .ok (.iload 5, 2) := by decide +kernel
theorem dL_law_30 : decode cL_law 30 = .ok (.aload_n 0, 1) := by decide +kernel
theorem dL_law_31 : decode cL_law 31 = .ok (.arraylength, 1) := by decide +kernel
theorem dL_law_32 : decode cL_law 32 = .ok (.iconst 4, 1) := by decide +kernel
theorem dL_law_33 : decode cL_law 33 = .ok (.isub, 1) := by decide +kernel
theorem dL_law_34 : decode cL_law 34 = .ok (.if_icmp .gt 1954, 3) := by decide +kernel
theorem dL_law_37 : decode cL_law 37 = .ok (.aload_n 0, 1) := by decide +kernel
theorem dL_law_38 : decode cL_law 38 = .ok (.iload 5, 2) := by decide +kernel
theorem dL_law_40 : decode cL_law 40 = .ok (.iaload, 1) := by decide +kernel
theorem dL_law_41 : decode cL_law 41 = .ok (.bipush 63, 2) := by decide +kernel
theorem dL_law_43 : decode cL_law 43 = .ok (.iand, 1) := by decide +kernel
theorem dL_law_44 : decode cL_law 44 = .ok (.tableswitch 1938 0 35 #[160, 216, 272, 340, 396, 452, 508, 588, 632, 688, 756, 800, 844, 888, 901, 914, 927, 940, 984, 1028, 1071, 1115, 1171, 1215, 1283, 1339, 1383, 1427, 1471, 1527, 1583, 1639, 1695, 1751, 1807, 1873], 160) := by decide +kernel
theorem dL_law_204 : decode cL_law 204 = .ok (.aload_n 1, 1) := by decide +kernel
theorem dL_law_205 : decode cL_law 205 = .ok (.aload_n 0, 1) := by decide +kernel
theorem dL_law_206 : decode cL_law 206 = .ok (.iload 5, 2) := by decide +kernel
theorem dL_law_208 : decode cL_law 208 = .ok (.iconst 1, 1) := by decide +kernel
theorem dL_law_209 : decode cL_law 209 = .ok (.iadd, 1) := by decide +kernel
theorem dL_law_210 : decode cL_law 210 = .ok (.iaload, 1) := by decide +kernel
theorem dL_law_211 : decode cL_law 211 = .ok (.aload_n 3, 1) := by decide +kernel
theorem dL_law_212 : decode cL_law 212 = .ok (.invokestatic 130, 3) := by decide +kernel
theorem dL_law_215 : decode cL_law 215 = .ok (.istore 6, 2) := by decide +kernel
theorem dL_law_217 : decode cL_law 217 = .ok (.aload_n 2, 1) := by decide +kernel
theorem dL_law_218 : decode cL_law 218 = .ok (.aload_n 0, 1) := by decide +kernel
theorem dL_law_219 : decode cL_law 219 = .ok (.iload 5, 2) := by decide +kernel
theorem dL_law_221 : decode cL_law 221 = .ok (.iconst 1, 1) := by decide +kernel
theorem dL_law_222 : decode cL_law 222 = .ok (.iadd, 1) := by decide +kernel
theorem dL_law_223 : decode cL_law 223 = .ok (.iaload, 1) := by decide +kernel
theorem dL_law_224 : decode cL_law 224 = .ok (.invokevirtual 135, 3) := by decide +kernel
theorem dL_law_227 : decode cL_law 227 = .ok (.istore 7, 2) := by decide +kernel
theorem dL_law_229 : decode cL_law 229 = .ok (.aload_n 2, 1) := by decide +kernel
theorem dL_law_230 : decode cL_law 230 = .ok (.invokevirtual 136, 3) := by decide +kernel
theorem dL_law_233 : decode cL_law 233 = .ok (.iload 6, 2) := by decide +kernel
theorem dL_law_235 : decode cL_law 235 = .ok (.if_icmp .eq 5, 3) := by decide +kernel
theorem dL_law_238 : decode cL_law 238 = .ok (.iconst 0, 1) := by decide +kernel
theorem dL_law_239 : decode cL_law 239 = .ok (.ireturn, 1) := by decide +kernel
theorem dL_law_240 : decode cL_law 240 = .ok (.iload 6, 2) := by decide +kernel
theorem dL_law_242 : decode cL_law 242 = .ok (.ifCond .ne 15, 3) := by decide +kernel
theorem dL_law_245 : decode cL_law 245 = .ok (.aload_n 3, 1) := by decide +kernel
theorem dL_law_246 : decode cL_law 246 = .ok (.iconst 0, 1) := by decide +kernel
theorem dL_law_247 : decode cL_law 247 = .ok (.laload, 1) := by decide +kernel
theorem dL_law_248 : decode cL_law 248 = .ok (.iload 7, 2) := by decide +kernel
theorem dL_law_250 : decode cL_law 250 = .ok (.i2l, 1) := by decide +kernel
theorem dL_law_251 : decode cL_law 251 = .ok (.lcmp, 1) := by decide +kernel
theorem dL_law_252 : decode cL_law 252 = .ok (.ifCond .eq 5, 3) := by decide +kernel
theorem dL_law_255 : decode cL_law 255 = .ok (.iconst 0, 1) := by decide +kernel
theorem dL_law_256 : decode cL_law 256 = .ok (.ireturn, 1) := by decide +kernel
theorem dL_law_257 : decode cL_law 257 = .ok (.goto 1725, 3) := by decide +kernel
theorem dL_law_260 : decode cL_law 260 = .ok (.aload_n 1, 1) := by decide +kernel
theorem dL_law_261 : decode cL_law 261 = .ok (.aload_n 0, 1) := by decide +kernel
theorem dL_law_262 : decode cL_law 262 = .ok (.iload 5, 2) := by decide +kernel
theorem dL_law_264 : decode cL_law 264 = .ok (.iconst 1, 1) := by decide +kernel
theorem dL_law_265 : decode cL_law 265 = .ok (.iadd, 1) := by decide +kernel
theorem dL_law_266 : decode cL_law 266 = .ok (.iaload, 1) := by decide +kernel
theorem dL_law_267 : decode cL_law 267 = .ok (.aload_n 3, 1) := by decide +kernel
theorem dL_law_268 : decode cL_law 268 = .ok (.invokestatic 139, 3) := by decide +kernel
theorem dL_law_271 : decode cL_law 271 = .ok (.istore 6, 2) := by decide +kernel
theorem dL_law_273 : decode cL_law 273 = .ok (.aload_n 2, 1) := by decide +kernel
theorem dL_law_274 : decode cL_law 274 = .ok (.aload_n 0, 1) := by decide +kernel
theorem dL_law_275 : decode cL_law 275 = .ok (.iload 5, 2) := by decide +kernel
theorem dL_law_277 : decode cL_law 277 = .ok (.iconst 1, 1) := by decide +kernel
theorem dL_law_278 : decode cL_law 278 = .ok (.iadd, 1) := by decide +kernel
theorem dL_law_279 : decode cL_law 279 = .ok (.iaload, 1) := by decide +kernel
theorem dL_law_280 : decode cL_law 280 = .ok (.invokevirtual 141, 3) := by decide +kernel
theorem dL_law_283 : decode cL_law 283 = .ok (.istore 7, 2) := by decide +kernel
theorem dL_law_285 : decode cL_law 285 = .ok (.aload_n 2, 1) := by decide +kernel
theorem dL_law_286 : decode cL_law 286 = .ok (.invokevirtual 136, 3) := by decide +kernel
theorem dL_law_289 : decode cL_law 289 = .ok (.iload 6, 2) := by decide +kernel
theorem dL_law_291 : decode cL_law 291 = .ok (.if_icmp .eq 5, 3) := by decide +kernel
theorem dL_law_294 : decode cL_law 294 = .ok (.iconst 0, 1) := by decide +kernel
theorem dL_law_295 : decode cL_law 295 = .ok (.ireturn, 1) := by decide +kernel
theorem dL_law_296 : decode cL_law 296 = .ok (.iload 6, 2) := by decide +kernel
theorem dL_law_298 : decode cL_law 298 = .ok (.ifCond .ne 15, 3) := by decide +kernel
theorem dL_law_301 : decode cL_law 301 = .ok (.aload_n 3, 1) := by decide +kernel
theorem dL_law_302 : decode cL_law 302 = .ok (.iconst 0, 1) := by decide +kernel
theorem dL_law_303 : decode cL_law 303 = .ok (.laload, 1) := by decide +kernel
theorem dL_law_304 : decode cL_law 304 = .ok (.iload 7, 2) := by decide +kernel
theorem dL_law_306 : decode cL_law 306 = .ok (.i2l, 1) := by decide +kernel
theorem dL_law_307 : decode cL_law 307 = .ok (.lcmp, 1) := by decide +kernel
theorem dL_law_308 : decode cL_law 308 = .ok (.ifCond .eq 5, 3) := by decide +kernel
theorem dL_law_311 : decode cL_law 311 = .ok (.iconst 0, 1) := by decide +kernel
theorem dL_law_312 : decode cL_law 312 = .ok (.ireturn, 1) := by decide +kernel
theorem dL_law_313 : decode cL_law 313 = .ok (.goto 1669, 3) := by decide +kernel
theorem dL_law_316 : decode cL_law 316 = .ok (.aload_n 1, 1) := by decide +kernel
theorem dL_law_317 : decode cL_law 317 = .ok (.aload_n 0, 1) := by decide +kernel
theorem dL_law_318 : decode cL_law 318 = .ok (.iload 5, 2) := by decide +kernel
theorem dL_law_320 : decode cL_law 320 = .ok (.iconst 1, 1) := by decide +kernel
theorem dL_law_321 : decode cL_law 321 = .ok (.iadd, 1) := by decide +kernel
theorem dL_law_322 : decode cL_law 322 = .ok (.iaload, 1) := by decide +kernel
theorem dL_law_323 : decode cL_law 323 = .ok (.aload_n 0, 1) := by decide +kernel
theorem dL_law_324 : decode cL_law 324 = .ok (.iload 5, 2) := by decide +kernel
theorem dL_law_326 : decode cL_law 326 = .ok (.iconst 2, 1) := by decide +kernel
theorem dL_law_327 : decode cL_law 327 = .ok (.iadd, 1) := by decide +kernel
theorem dL_law_328 : decode cL_law 328 = .ok (.iaload, 1) := by decide +kernel
theorem dL_law_329 : decode cL_law 329 = .ok (.aload_n 3, 1) := by decide +kernel
theorem dL_law_330 : decode cL_law 330 = .ok (.invokestatic 142, 3) := by decide +kernel
theorem dL_law_333 : decode cL_law 333 = .ok (.istore 6, 2) := by decide +kernel
theorem dL_law_335 : decode cL_law 335 = .ok (.aload_n 2, 1) := by decide +kernel
theorem dL_law_336 : decode cL_law 336 = .ok (.aload_n 0, 1) := by decide +kernel
theorem dL_law_337 : decode cL_law 337 = .ok (.iload 5, 2) := by decide +kernel
theorem dL_law_339 : decode cL_law 339 = .ok (.iconst 1, 1) := by decide +kernel
theorem dL_law_340 : decode cL_law 340 = .ok (.iadd, 1) := by decide +kernel
theorem dL_law_341 : decode cL_law 341 = .ok (.iaload, 1) := by decide +kernel
theorem dL_law_342 : decode cL_law 342 = .ok (.aload_n 0, 1) := by decide +kernel
theorem dL_law_343 : decode cL_law 343 = .ok (.iload 5, 2) := by decide +kernel
theorem dL_law_345 : decode cL_law 345 = .ok (.iconst 2, 1) := by decide +kernel
theorem dL_law_346 : decode cL_law 346 = .ok (.iadd, 1) := by decide +kernel
theorem dL_law_347 : decode cL_law 347 = .ok (.iaload, 1) := by decide +kernel
theorem dL_law_348 : decode cL_law 348 = .ok (.invokevirtual 145, 3) := by decide +kernel
theorem dL_law_351 : decode cL_law 351 = .ok (.istore 7, 2) := by decide +kernel
theorem dL_law_353 : decode cL_law 353 = .ok (.aload_n 2, 1) := by decide +kernel
theorem dL_law_354 : decode cL_law 354 = .ok (.invokevirtual 136, 3) := by decide +kernel
theorem dL_law_357 : decode cL_law 357 = .ok (.iload 6, 2) := by decide +kernel
theorem dL_law_359 : decode cL_law 359 = .ok (.if_icmp .eq 5, 3) := by decide +kernel
theorem dL_law_362 : decode cL_law 362 = .ok (.iconst 0, 1) := by decide +kernel
theorem dL_law_363 : decode cL_law 363 = .ok (.ireturn, 1) := by decide +kernel
theorem dL_law_364 : decode cL_law 364 = .ok (.iload 6, 2) := by decide +kernel
theorem dL_law_366 : decode cL_law 366 = .ok (.ifCond .ne 15, 3) := by decide +kernel
theorem dL_law_369 : decode cL_law 369 = .ok (.aload_n 3, 1) := by decide +kernel
theorem dL_law_370 : decode cL_law 370 = .ok (.iconst 0, 1) := by decide +kernel
theorem dL_law_371 : decode cL_law 371 = .ok (.laload, 1) := by decide +kernel
theorem dL_law_372 : decode cL_law 372 = .ok (.iload 7, 2) := by decide +kernel
theorem dL_law_374 : decode cL_law 374 = .ok (.i2l, 1) := by decide +kernel
theorem dL_law_375 : decode cL_law 375 = .ok (.lcmp, 1) := by decide +kernel
theorem dL_law_376 : decode cL_law 376 = .ok (.ifCond .eq 5, 3) := by decide +kernel
theorem dL_law_379 : decode cL_law 379 = .ok (.iconst 0, 1) := by decide +kernel
theorem dL_law_380 : decode cL_law 380 = .ok (.ireturn, 1) := by decide +kernel
theorem dL_law_381 : decode cL_law 381 = .ok (.goto 1601, 3) := by decide +kernel
theorem dL_law_384 : decode cL_law 384 = .ok (.aload_n 1, 1) := by decide +kernel
theorem dL_law_385 : decode cL_law 385 = .ok (.aload_n 0, 1) := by decide +kernel
theorem dL_law_386 : decode cL_law 386 = .ok (.iload 5, 2) := by decide +kernel
theorem dL_law_388 : decode cL_law 388 = .ok (.iconst 1, 1) := by decide +kernel
theorem dL_law_389 : decode cL_law 389 = .ok (.iadd, 1) := by decide +kernel
theorem dL_law_390 : decode cL_law 390 = .ok (.iaload, 1) := by decide +kernel
theorem dL_law_391 : decode cL_law 391 = .ok (.aload_n 3, 1) := by decide +kernel
theorem dL_law_392 : decode cL_law 392 = .ok (.invokestatic 146, 3) := by decide +kernel
theorem dL_law_395 : decode cL_law 395 = .ok (.istore 6, 2) := by decide +kernel
theorem dL_law_397 : decode cL_law 397 = .ok (.aload_n 2, 1) := by decide +kernel
theorem dL_law_398 : decode cL_law 398 = .ok (.aload_n 0, 1) := by decide +kernel
theorem dL_law_399 : decode cL_law 399 = .ok (.iload 5, 2) := by decide +kernel
theorem dL_law_401 : decode cL_law 401 = .ok (.iconst 1, 1) := by decide +kernel
theorem dL_law_402 : decode cL_law 402 = .ok (.iadd, 1) := by decide +kernel
theorem dL_law_403 : decode cL_law 403 = .ok (.iaload, 1) := by decide +kernel
theorem dL_law_404 : decode cL_law 404 = .ok (.invokevirtual 148, 3) := by decide +kernel
theorem dL_law_407 : decode cL_law 407 = .ok (.istore 7, 2) := by decide +kernel
theorem dL_law_409 : decode cL_law 409 = .ok (.aload_n 2, 1) := by decide +kernel
theorem dL_law_410 : decode cL_law 410 = .ok (.invokevirtual 136, 3) := by decide +kernel
theorem dL_law_413 : decode cL_law 413 = .ok (.iload 6, 2) := by decide +kernel
theorem dL_law_415 : decode cL_law 415 = .ok (.if_icmp .eq 5, 3) := by decide +kernel
theorem dL_law_418 : decode cL_law 418 = .ok (.iconst 0, 1) := by decide +kernel
theorem dL_law_419 : decode cL_law 419 = .ok (.ireturn, 1) := by decide +kernel
theorem dL_law_420 : decode cL_law 420 = .ok (.iload 6, 2) := by decide +kernel
theorem dL_law_422 : decode cL_law 422 = .ok (.ifCond .ne 15, 3) := by decide +kernel
theorem dL_law_425 : decode cL_law 425 = .ok (.aload_n 3, 1) := by decide +kernel
theorem dL_law_426 : decode cL_law 426 = .ok (.iconst 0, 1) := by decide +kernel
theorem dL_law_427 : decode cL_law 427 = .ok (.laload, 1) := by decide +kernel
theorem dL_law_428 : decode cL_law 428 = .ok (.iload 7, 2) := by decide +kernel
theorem dL_law_430 : decode cL_law 430 = .ok (.i2l, 1) := by decide +kernel
theorem dL_law_431 : decode cL_law 431 = .ok (.lcmp, 1) := by decide +kernel
theorem dL_law_432 : decode cL_law 432 = .ok (.ifCond .eq 5, 3) := by decide +kernel
theorem dL_law_435 : decode cL_law 435 = .ok (.iconst 0, 1) := by decide +kernel
theorem dL_law_436 : decode cL_law 436 = .ok (.ireturn, 1) := by decide +kernel
theorem dL_law_437 : decode cL_law 437 = .ok (.goto 1545, 3) := by decide +kernel
theorem dL_law_440 : decode cL_law 440 = .ok (.aload_n 1, 1) := by decide +kernel
theorem dL_law_441 : decode cL_law 441 = .ok (.aload_n 0, 1) := by decide +kernel
theorem dL_law_442 : decode cL_law 442 = .ok (.iload 5, 2) := by decide +kernel
theorem dL_law_444 : decode cL_law 444 = .ok (.iconst 1, 1) := by decide +kernel
theorem dL_law_445 : decode cL_law 445 = .ok (.iadd, 1) := by decide +kernel
theorem dL_law_446 : decode cL_law 446 = .ok (.iaload, 1) := by decide +kernel
theorem dL_law_447 : decode cL_law 447 = .ok (.aload_n 3, 1) := by decide +kernel
theorem dL_law_448 : decode cL_law 448 = .ok (.invokestatic 149, 3) := by decide +kernel
theorem dL_law_451 : decode cL_law 451 = .ok (.istore 6, 2) := by decide +kernel
theorem dL_law_453 : decode cL_law 453 = .ok (.aload_n 2, 1) := by decide +kernel
theorem dL_law_454 : decode cL_law 454 = .ok (.aload_n 0, 1) := by decide +kernel
theorem dL_law_455 : decode cL_law 455 = .ok (.iload 5, 2) := by decide +kernel
theorem dL_law_457 : decode cL_law 457 = .ok (.iconst 1, 1) := by decide +kernel
theorem dL_law_458 : decode cL_law 458 = .ok (.iadd, 1) := by decide +kernel
theorem dL_law_459 : decode cL_law 459 = .ok (.iaload, 1) := by decide +kernel
theorem dL_law_460 : decode cL_law 460 = .ok (.invokevirtual 151, 3) := by decide +kernel
theorem dL_law_463 : decode cL_law 463 = .ok (.istore 7, 2) := by decide +kernel
theorem dL_law_465 : decode cL_law 465 = .ok (.aload_n 2, 1) := by decide +kernel
theorem dL_law_466 : decode cL_law 466 = .ok (.invokevirtual 136, 3) := by decide +kernel
theorem dL_law_469 : decode cL_law 469 = .ok (.iload 6, 2) := by decide +kernel
theorem dL_law_471 : decode cL_law 471 = .ok (.if_icmp .eq 5, 3) := by decide +kernel
theorem dL_law_474 : decode cL_law 474 = .ok (.iconst 0, 1) := by decide +kernel
theorem dL_law_475 : decode cL_law 475 = .ok (.ireturn, 1) := by decide +kernel
theorem dL_law_476 : decode cL_law 476 = .ok (.iload 6, 2) := by decide +kernel
theorem dL_law_478 : decode cL_law 478 = .ok (.ifCond .ne 15, 3) := by decide +kernel
theorem dL_law_481 : decode cL_law 481 = .ok (.aload_n 3, 1) := by decide +kernel
theorem dL_law_482 : decode cL_law 482 = .ok (.iconst 0, 1) := by decide +kernel
theorem dL_law_483 : decode cL_law 483 = .ok (.laload, 1) := by decide +kernel
theorem dL_law_484 : decode cL_law 484 = .ok (.iload 7, 2) := by decide +kernel
theorem dL_law_486 : decode cL_law 486 = .ok (.i2l, 1) := by decide +kernel
theorem dL_law_487 : decode cL_law 487 = .ok (.lcmp, 1) := by decide +kernel
theorem dL_law_488 : decode cL_law 488 = .ok (.ifCond .eq 5, 3) := by decide +kernel
theorem dL_law_491 : decode cL_law 491 = .ok (.iconst 0, 1) := by decide +kernel
theorem dL_law_492 : decode cL_law 492 = .ok (.ireturn, 1) := by decide +kernel
theorem dL_law_493 : decode cL_law 493 = .ok (.goto 1489, 3) := by decide +kernel
theorem dL_law_496 : decode cL_law 496 = .ok (.aload_n 1, 1) := by decide +kernel
theorem dL_law_497 : decode cL_law 497 = .ok (.aload_n 0, 1) := by decide +kernel
theorem dL_law_498 : decode cL_law 498 = .ok (.iload 5, 2) := by decide +kernel
theorem dL_law_500 : decode cL_law 500 = .ok (.iconst 1, 1) := by decide +kernel
theorem dL_law_501 : decode cL_law 501 = .ok (.iadd, 1) := by decide +kernel
theorem dL_law_502 : decode cL_law 502 = .ok (.iaload, 1) := by decide +kernel
theorem dL_law_503 : decode cL_law 503 = .ok (.aload_n 3, 1) := by decide +kernel
theorem dL_law_504 : decode cL_law 504 = .ok (.invokestatic 152, 3) := by decide +kernel
theorem dL_law_507 : decode cL_law 507 = .ok (.istore 6, 2) := by decide +kernel
theorem dL_law_509 : decode cL_law 509 = .ok (.aload_n 2, 1) := by decide +kernel
theorem dL_law_510 : decode cL_law 510 = .ok (.aload_n 0, 1) := by decide +kernel
theorem dL_law_511 : decode cL_law 511 = .ok (.iload 5, 2) := by decide +kernel
theorem dL_law_513 : decode cL_law 513 = .ok (.iconst 1, 1) := by decide +kernel
theorem dL_law_514 : decode cL_law 514 = .ok (.iadd, 1) := by decide +kernel
theorem dL_law_515 : decode cL_law 515 = .ok (.iaload, 1) := by decide +kernel
theorem dL_law_516 : decode cL_law 516 = .ok (.invokevirtual 154, 3) := by decide +kernel
theorem dL_law_519 : decode cL_law 519 = .ok (.istore 7, 2) := by decide +kernel
theorem dL_law_521 : decode cL_law 521 = .ok (.aload_n 2, 1) := by decide +kernel
theorem dL_law_522 : decode cL_law 522 = .ok (.invokevirtual 136, 3) := by decide +kernel
theorem dL_law_525 : decode cL_law 525 = .ok (.iload 6, 2) := by decide +kernel
theorem dL_law_527 : decode cL_law 527 = .ok (.if_icmp .eq 5, 3) := by decide +kernel
theorem dL_law_530 : decode cL_law 530 = .ok (.iconst 0, 1) := by decide +kernel
theorem dL_law_531 : decode cL_law 531 = .ok (.ireturn, 1) := by decide +kernel
theorem dL_law_532 : decode cL_law 532 = .ok (.iload 6, 2) := by decide +kernel
theorem dL_law_534 : decode cL_law 534 = .ok (.ifCond .ne 15, 3) := by decide +kernel
theorem dL_law_537 : decode cL_law 537 = .ok (.aload_n 3, 1) := by decide +kernel
theorem dL_law_538 : decode cL_law 538 = .ok (.iconst 0, 1) := by decide +kernel
theorem dL_law_539 : decode cL_law 539 = .ok (.laload, 1) := by decide +kernel
theorem dL_law_540 : decode cL_law 540 = .ok (.iload 7, 2) := by decide +kernel
theorem dL_law_542 : decode cL_law 542 = .ok (.i2l, 1) := by decide +kernel
theorem dL_law_543 : decode cL_law 543 = .ok (.lcmp, 1) := by decide +kernel
theorem dL_law_544 : decode cL_law 544 = .ok (.ifCond .eq 5, 3) := by decide +kernel
theorem dL_law_547 : decode cL_law 547 = .ok (.iconst 0, 1) := by decide +kernel
theorem dL_law_548 : decode cL_law 548 = .ok (.ireturn, 1) := by decide +kernel
theorem dL_law_549 : decode cL_law 549 = .ok (.goto 1433, 3) := by decide +kernel
theorem dL_law_552 : decode cL_law 552 = .ok (.aload_n 1, 1) := by decide +kernel
theorem dL_law_553 : decode cL_law 553 = .ok (.aload_n 0, 1) := by decide +kernel
theorem dL_law_554 : decode cL_law 554 = .ok (.iload 5, 2) := by decide +kernel
theorem dL_law_556 : decode cL_law 556 = .ok (.iconst 1, 1) := by decide +kernel
theorem dL_law_557 : decode cL_law 557 = .ok (.iadd, 1) := by decide +kernel
theorem dL_law_558 : decode cL_law 558 = .ok (.iaload, 1) := by decide +kernel
theorem dL_law_559 : decode cL_law 559 = .ok (.aload_n 0, 1) := by decide +kernel
theorem dL_law_560 : decode cL_law 560 = .ok (.iload 5, 2) := by decide +kernel
theorem dL_law_562 : decode cL_law 562 = .ok (.iconst 2, 1) := by decide +kernel
theorem dL_law_563 : decode cL_law 563 = .ok (.iadd, 1) := by decide +kernel
theorem dL_law_564 : decode cL_law 564 = .ok (.iaload, 1) := by decide +kernel
theorem dL_law_565 : decode cL_law 565 = .ok (.aload_n 0, 1) := by decide +kernel
theorem dL_law_566 : decode cL_law 566 = .ok (.iload 5, 2) := by decide +kernel
theorem dL_law_568 : decode cL_law 568 = .ok (.iconst 3, 1) := by decide +kernel
theorem dL_law_569 : decode cL_law 569 = .ok (.iadd, 1) := by decide +kernel
theorem dL_law_570 : decode cL_law 570 = .ok (.iaload, 1) := by decide +kernel
theorem dL_law_571 : decode cL_law 571 = .ok (.aload_n 3, 1) := by decide +kernel
theorem dL_law_572 : decode cL_law 572 = .ok (.invokestatic 155, 3) := by decide +kernel
theorem dL_law_575 : decode cL_law 575 = .ok (.istore 6, 2) := by decide +kernel
theorem dL_law_577 : decode cL_law 577 = .ok (.aload_n 2, 1) := by decide +kernel
theorem dL_law_578 : decode cL_law 578 = .ok (.aload_n 0, 1) := by decide +kernel
theorem dL_law_579 : decode cL_law 579 = .ok (.iload 5, 2) := by decide +kernel
theorem dL_law_581 : decode cL_law 581 = .ok (.iconst 1, 1) := by decide +kernel
theorem dL_law_582 : decode cL_law 582 = .ok (.iadd, 1) := by decide +kernel
theorem dL_law_583 : decode cL_law 583 = .ok (.iaload, 1) := by decide +kernel
theorem dL_law_584 : decode cL_law 584 = .ok (.aload_n 0, 1) := by decide +kernel
theorem dL_law_585 : decode cL_law 585 = .ok (.iload 5, 2) := by decide +kernel
theorem dL_law_587 : decode cL_law 587 = .ok (.iconst 2, 1) := by decide +kernel
theorem dL_law_588 : decode cL_law 588 = .ok (.iadd, 1) := by decide +kernel
theorem dL_law_589 : decode cL_law 589 = .ok (.iaload, 1) := by decide +kernel
theorem dL_law_590 : decode cL_law 590 = .ok (.aload_n 0, 1) := by decide +kernel
theorem dL_law_591 : decode cL_law 591 = .ok (.iload 5, 2) := by decide +kernel
theorem dL_law_593 : decode cL_law 593 = .ok (.iconst 3, 1) := by decide +kernel
theorem dL_law_594 : decode cL_law 594 = .ok (.iadd, 1) := by decide +kernel
theorem dL_law_595 : decode cL_law 595 = .ok (.iaload, 1) := by decide +kernel
theorem dL_law_596 : decode cL_law 596 = .ok (.invokevirtual 158, 3) := by decide +kernel
theorem dL_law_599 : decode cL_law 599 = .ok (.istore 7, 2) := by decide +kernel
theorem dL_law_601 : decode cL_law 601 = .ok (.aload_n 2, 1) := by decide +kernel
theorem dL_law_602 : decode cL_law 602 = .ok (.invokevirtual 136, 3) := by decide +kernel
theorem dL_law_605 : decode cL_law 605 = .ok (.iload 6, 2) := by decide +kernel
theorem dL_law_607 : decode cL_law 607 = .ok (.if_icmp .eq 5, 3) := by decide +kernel
theorem dL_law_610 : decode cL_law 610 = .ok (.iconst 0, 1) := by decide +kernel
theorem dL_law_611 : decode cL_law 611 = .ok (.ireturn, 1) := by decide +kernel
theorem dL_law_612 : decode cL_law 612 = .ok (.iload 6, 2) := by decide +kernel
theorem dL_law_614 : decode cL_law 614 = .ok (.ifCond .ne 15, 3) := by decide +kernel
theorem dL_law_617 : decode cL_law 617 = .ok (.aload_n 3, 1) := by decide +kernel
theorem dL_law_618 : decode cL_law 618 = .ok (.iconst 0, 1) := by decide +kernel
theorem dL_law_619 : decode cL_law 619 = .ok (.laload, 1) := by decide +kernel
theorem dL_law_620 : decode cL_law 620 = .ok (.iload 7, 2) := by decide +kernel
theorem dL_law_622 : decode cL_law 622 = .ok (.i2l, 1) := by decide +kernel
theorem dL_law_623 : decode cL_law 623 = .ok (.lcmp, 1) := by decide +kernel
theorem dL_law_624 : decode cL_law 624 = .ok (.ifCond .eq 5, 3) := by decide +kernel
theorem dL_law_627 : decode cL_law 627 = .ok (.iconst 0, 1) := by decide +kernel
theorem dL_law_628 : decode cL_law 628 = .ok (.ireturn, 1) := by decide +kernel
theorem dL_law_629 : decode cL_law 629 = .ok (.goto 1353, 3) := by decide +kernel
theorem dL_law_632 : decode cL_law 632 = .ok (.aload_n 1, 1) := by decide +kernel
theorem dL_law_633 : decode cL_law 633 = .ok (.aload_n 3, 1) := by decide +kernel
theorem dL_law_634 : decode cL_law 634 = .ok (.invokestatic 159, 3) := by decide +kernel
theorem dL_law_637 : decode cL_law 637 = .ok (.istore 6, 2) := by decide +kernel
theorem dL_law_639 : decode cL_law 639 = .ok (.aload_n 2, 1) := by decide +kernel
