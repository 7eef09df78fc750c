theorem dX7_call_78 : decode cX7_call 78 = .ok (.iload_n 1, 1) := by decide +kernel
theorem dX7_call_79 : decode cX7_call 79 = .ok (.invokevirtual 96, 3) := by decide +kernel
theorem dX7_call_82 : decode cX7_call 82 = .ok (.ireturn, 1) := by decide +kernel
theorem dX7_begins_0 : decode cX7_begins 0 = .ok (.aload_n 0, 1) := by decide +kernel
theorem dX7_begins_1 : decode cX7_begins 1 = .ok (.getfield 29, 3) := by decide +kernel
theorem dX7_begins_4 : decode cX7_begins 4 = .ok (.aload_n 0, 1) := by decide +kernel
theorem dX7_begins_5 : decode cX7_begins 5 = .ok (.getfield 111, 3) := by decide +kernel
theorem dX7_begins_8 : decode cX7_begins 8 = .ok (.aload_n 0, 1) := by decide +kernel
theorem dX7_begins_9 : decode cX7_begins 9 = .ok (.getfield 89, 3) := by decide +kernel
theorem dX7_begins_12 : decode cX7_begins 12 = .ok (.iastore, 1) := by decide +kernel
theorem dX7_begins_13 : decode cX7_begins 13 = .ok (.aload_n 0, 1) := by decide +kernel
theorem dX7_begins_14 : decode cX7_begins 14 = .ok (.dup, 1) := by decide +kernel
theorem dX7_begins_15 : decode cX7_begins 15 = .ok (.getfield 111, 3) := by decide +kernel
theorem dX7_begins_18 : decode cX7_begins 18 = .ok (.iconst 1, 1) := by decide +kernel
theorem dX7_begins_19 : decode cX7_begins 19 = .ok (.iadd, 1) := by decide +kernel
theorem dX7_begins_20 : decode cX7_begins 20 = .ok (.putfield 111, 3) := by decide +kernel
theorem dX7_begins_23 : decode cX7_begins 23 = .ok (.aload_n 0, 1) := by decide +kernel
theorem dX7_begins_24 : decode cX7_begins 24 = .ok (.iload_n 1, 1) := by decide +kernel
theorem dX7_begins_25 : decode cX7_begins 25 = .ok (.iload_n 2, 1) := by decide +kernel
theorem dX7_begins_26 : decode cX7_begins 26 = .ok (.iload_n 3, 1) := by decide +kernel
theorem dX7_begins_27 : decode cX7_begins 27 = .ok (.iconst 0, 1) := by decide +kernel
theorem dX7_begins_28 : decode cX7_begins 28 = .ok (.invokevirtual 96, 3) := by decide +kernel
theorem dX7_begins_31 : decode cX7_begins 31 = .ok (.ireturn, 1) := by decide +kernel
theorem dX7_block_0 : decode cX7_block 0 = .ok (.aload_n 0, 1) := by decide +kernel
theorem dX7_block_1 : decode cX7_block 1 = .ok (.getfield 89, 3) := by decide +kernel
theorem dX7_block_4 : decode cX7_block 4 = .ok (.bipush 80, 2) := by decide +kernel
theorem dX7_block_6 : decode cX7_block 6 = .ok (.if_icmp .ne 11, 3) := by decide +kernel
theorem dX7_block_9 : decode cX7_block 9 = .ok (.aload_n 0, 1) := by decide +kernel
theorem dX7_block_10 : decode cX7_block 10 = .ok (.iconst 1, 1) := by decide +kernel
theorem dX7_block_11 : decode cX7_block 11 = .ok (.invokevirtual 92, 3) := by decide +kernel
theorem dX7_block_14 : decode cX7_block 14 = .ok (.goto 11, 3) := by decide +kernel
theorem dX7_block_17 : decode cX7_block 17 = .ok (.aload_n 0, 1) := by decide +kernel
theorem dX7_block_18 : decode cX7_block 18 = .ok (.bipush 7, 2) := by decide +kernel
theorem dX7_block_20 : decode cX7_block 20 = .ok (.iconst 0, 1) := by decide +kernel
theorem dX7_block_21 : decode cX7_block 21 = .ok (.iconst 0, 1) := by decide +kernel
theorem dX7_block_22 : decode cX7_block 22 = .ok (.invokevirtual 114, 3) := by decide +kernel
theorem dX7_block_25 : decode cX7_block 25 = .ok (.ireturn, 1) := by decide +kernel
theorem dX7_loop_0 : decode cX7_loop 0 = .ok (.aload_n 0, 1) := by decide +kernel
theorem dX7_loop_1 : decode cX7_loop 1 = .ok (.iload_n 1, 1) := by decide +kernel
theorem dX7_loop_2 : decode cX7_loop 2 = .ok (.bipush 9, 2) := by decide +kernel
theorem dX7_loop_4 : decode cX7_loop 4 = .ok (.invokevirtual 100, 3) := by decide +kernel
theorem dX7_loop_7 : decode cX7_loop 7 = .ok (.ifCond .ne 9, 3) := by decide +kernel
theorem dX7_loop_10 : decode cX7_loop 10 = .ok (.aload_n 0, 1) := by decide +kernel
theorem dX7_loop_11 : decode cX7_loop 11 = .ok (.iconst 1, 1) := by decide +kernel
theorem dX7_loop_12 : decode cX7_loop 12 = .ok (.invokevirtual 92, 3) := by decide +kernel
theorem dX7_loop_15 : decode cX7_loop 15 = .ok (.ireturn, 1) := by decide +kernel
theorem dX7_loop_16 : decode cX7_loop 16 = .ok (.aload_n 0, 1) := by decide +kernel
theorem dX7_loop_17 : decode cX7_loop 17 = .ok (.getfield 89, 3) := by decide +kernel
theorem dX7_loop_20 : decode cX7_loop 20 = .ok (.bipush 80, 2) := by decide +kernel
theorem dX7_loop_22 : decode cX7_loop 22 = .ok (.if_icmp .ne 11, 3) := by decide +kernel
theorem dX7_loop_25 : decode cX7_loop 25 = .ok (.aload_n 0, 1) := by decide +kernel
theorem dX7_loop_26 : decode cX7_loop 26 = .ok (.iconst 2, 1) := by decide +kernel
theorem dX7_loop_27 : decode cX7_loop 27 = .ok (.invokevirtual 92, 3) := by decide +kernel
theorem dX7_loop_30 : decode cX7_loop 30 = .ok (.goto 11, 3) := by decide +kernel
theorem dX7_loop_33 : decode cX7_loop 33 = .ok (.aload_n 0, 1) := by decide +kernel
theorem dX7_loop_34 : decode cX7_loop 34 = .ok (.bipush 8, 2) := by decide +kernel
theorem dX7_loop_36 : decode cX7_loop 36 = .ok (.iload_n 1, 1) := by decide +kernel
theorem dX7_loop_37 : decode cX7_loop 37 = .ok (.iconst 0, 1) := by decide +kernel
theorem dX7_loop_38 : decode cX7_loop 38 = .ok (.invokevirtual 114, 3) := by decide +kernel
theorem dX7_loop_41 : decode cX7_loop 41 = .ok (.ireturn, 1) := by decide +kernel
theorem dX7_when_0 : decode cX7_when 0 = .ok (.aload_n 0, 1) := by decide +kernel
theorem dX7_when_1 : decode cX7_when 1 = .ok (.iload_n 1, 1) := by decide +kernel
theorem dX7_when_2 : decode cX7_when 2 = .ok (.sipush 999, 3) := by decide +kernel
theorem dX7_when_5 : decode cX7_when 5 = .ok (.invokevirtual 100, 3) := by decide +kernel
theorem dX7_when_8 : decode cX7_when 8 = .ok (.ifCond .eq 14, 3) := by decide +kernel
theorem dX7_when_11 : decode cX7_when 11 = .ok (.aload_n 0, 1) := by decide +kernel
theorem dX7_when_12 : decode cX7_when 12 = .ok (.iload_n 2, 1) := by decide +kernel
theorem dX7_when_13 : decode cX7_when 13 = .ok (.sipush 999, 3) := by decide +kernel
theorem dX7_when_16 : decode cX7_when 16 = .ok (.invokevirtual 100, 3) := by decide +kernel
theorem dX7_when_19 : decode cX7_when 19 = .ok (.ifCond .ne 9, 3) := by decide +kernel
theorem dX7_when_22 : decode cX7_when 22 = .ok (.aload_n 0, 1) := by decide +kernel
theorem dX7_when_23 : decode cX7_when 23 = .ok (.iconst 1, 1) := by decide +kernel
theorem dX7_when_24 : decode cX7_when 24 = .ok (.invokevirtual 92, 3) := by decide +kernel
theorem dX7_when_27 : decode cX7_when 27 = .ok (.ireturn, 1) := by decide +kernel
theorem dX7_when_28 : decode cX7_when 28 = .ok (.aload_n 0, 1) := by decide +kernel
theorem dX7_when_29 : decode cX7_when 29 = .ok (.getfield 89, 3) := by decide +kernel
theorem dX7_when_32 : decode cX7_when 32 = .ok (.bipush 80, 2) := by decide +kernel
theorem dX7_when_34 : decode cX7_when 34 = .ok (.if_icmp .ne 11, 3) := by decide +kernel
theorem dX7_when_37 : decode cX7_when 37 = .ok (.aload_n 0, 1) := by decide +kernel
theorem dX7_when_38 : decode cX7_when 38 = .ok (.iconst 2, 1) := by decide +kernel
theorem dX7_when_39 : decode cX7_when 39 = .ok (.invokevirtual 92, 3) := by decide +kernel
theorem dX7_when_42 : decode cX7_when 42 = .ok (.goto 11, 3) := by decide +kernel
theorem dX7_when_45 : decode cX7_when 45 = .ok (.aload_n 0, 1) := by decide +kernel
theorem dX7_when_46 : decode cX7_when 46 = .ok (.bipush 9, 2) := by decide +kernel
theorem dX7_when_48 : decode cX7_when 48 = .ok (.iload_n 1, 1) := by decide +kernel
theorem dX7_when_49 : decode cX7_when 49 = .ok (.iload_n 2, 1) := by decide +kernel
theorem dX7_when_50 : decode cX7_when 50 = .ok (.invokevirtual 114, 3) := by decide +kernel
theorem dX7_when_53 : decode cX7_when 53 = .ok (.ireturn, 1) := by decide +kernel
theorem dX7_end_0 : decode cX7_end 0 = .ok (.aload_n 0, 1) := by decide +kernel
theorem dX7_end_1 : decode cX7_end 1 = .ok (.getfield 111, 3) := by decide +kernel
theorem dX7_end_4 : decode cX7_end 4 = .ok (.ifCond .ne 9, 3) := by decide +kernel
theorem dX7_end_7 : decode cX7_end 7 = .ok (.aload_n 0, 1) := by decide +kernel
theorem dX7_end_8 : decode cX7_end 8 = .ok (.iconst 1, 1) := by decide +kernel
theorem dX7_end_9 : decode cX7_end 9 = .ok (.invokevirtual 92, 3) := by decide +kernel
theorem dX7_end_12 : decode cX7_end 12 = .ok (.ireturn, 1) := by decide +kernel
theorem dX7_end_13 : decode cX7_end 13 = .ok (.aload_n 0, 1) := by decide +kernel
theorem dX7_end_14 : decode cX7_end 14 = .ok (.getfield 89, 3) := by decide +kernel
theorem dX7_end_17 : decode cX7_end 17 = .ok (.bipush 80, 2) := by decide +kernel
theorem dX7_end_19 : decode cX7_end 19 = .ok (.if_icmp .ne 9, 3) := by decide +kernel
theorem dX7_end_22 : decode cX7_end 22 = .ok (.aload_n 0, 1) := by decide +kernel
theorem dX7_end_23 : decode cX7_end 23 = .ok (.iconst 2, 1) := by decide +kernel
theorem dX7_end_24 : decode cX7_end 24 = .ok (.invokevirtual 92, 3) := by decide +kernel
theorem dX7_end_27 : decode cX7_end 27 = .ok (.ireturn, 1) := by decide +kernel
theorem dX7_end_28 : decode cX7_end 28 = .ok (.aload_n 0, 1) := by decide +kernel
theorem dX7_end_29 : decode cX7_end 29 = .ok (.dup, 1) := by decide +kernel
theorem dX7_end_30 : decode cX7_end 30 = .ok (.getfield 111, 3) := by decide +kernel
theorem dX7_end_33 : decode cX7_end 33 = .ok (.iconst 1, 1) := by decide +kernel
theorem dX7_end_34 : decode cX7_end 34 = .ok (.isub, 1) := by decide +kernel
theorem dX7_end_35 : decode cX7_end 35 = .ok (.putfield 111, 3) := by decide +kernel
theorem dX7_end_38 : decode cX7_end 38 = .ok (.aload_n 0, 1) := by decide +kernel
theorem dX7_end_39 : decode cX7_end 39 = .ok (.getfield 26, 3) := by decide +kernel
theorem dX7_end_42 : decode cX7_end 42 = .ok (.aload_n 0, 1) := by decide +kernel
theorem dX7_end_43 : decode cX7_end 43 = .ok (.getfield 29, 3) := by decide +kernel
theorem dX7_end_46 : decode cX7_end 46 = .ok (.aload_n 0, 1) := by decide +kernel
theorem dX7_end_47 : decode cX7_end 47 = .ok (.getfield 111, 3) := by decide +kernel
theorem dX7_end_50 : decode cX7_end 50 = .ok (.iaload, 1) := by decide +kernel
theorem dX7_end_51 : decode cX7_end 51 = .ok (.aload_n 0, 1) := by decide +kernel
theorem dX7_end_52 : decode cX7_end 52 = .ok (.getfield 89, 3) := by decide +kernel
theorem dX7_end_55 : decode cX7_end 55 = .ok (.iastore, 1) := by decide +kernel
theorem dX7_end_56 : decode cX7_end 56 = .ok (.aload_n 0, 1) := by decide +kernel
theorem dX7_end_57 : decode cX7_end 57 = .ok (.bipush 10, 2) := by decide +kernel
theorem dX7_end_59 : decode cX7_end 59 = .ok (.iconst 0, 1) := by decide +kernel
theorem dX7_end_60 : decode cX7_end 60 = .ok (.iconst 0, 1) := by decide +kernel
theorem dX7_end_61 : decode cX7_end 61 = .ok (.iconst 0, 1) := by decide +kernel
theorem dX7_end_62 : decode cX7_end 62 = .ok (.invokevirtual 96, 3) := by decide +kernel
theorem dX7_end_65 : decode cX7_end 65 = .ok (.ireturn, 1) := by decide +kernel
theorem dX7_macro_0 : decode cX7_macro 0 = .ok (.aload_n 0, 1) := by decide +kernel
theorem dX7_macro_1 : decode cX7_macro 1 = .ok (.getfield 7, 3) := by decide +kernel
theorem dX7_macro_4 : decode cX7_macro 4 = .ok (.iconst (-1), 1) := by decide +kernel
theorem dX7_macro_5 : decode cX7_macro 5 = .ok (.if_icmp .ne 10, 3) := by decide +kernel
theorem dX7_macro_8 : decode cX7_macro 8 = .ok (.aload_n 0, 1) := by decide +kernel
theorem dX7_macro_9 : decode cX7_macro 9 = .ok (.getfield 111, 3) := by decide +kernel
theorem dX7_macro_12 : decode cX7_macro 12 = .ok (.ifCond .le 9, 3) := by decide +kernel
theorem dX7_macro_15 : decode cX7_macro 15 = .ok (.aload_n 0, 1) := by decide +kernel
theorem dX7_macro_16 : decode cX7_macro 16 = .ok (.iconst 1, 1) := by decide +kernel
theorem dX7_macro_17 : decode cX7_macro 17 = .ok (.invokevirtual 92, 3) := by decide +kernel
theorem dX7_macro_20 : decode cX7_macro 20 = .ok (.ireturn, 1) := by decide +kernel
theorem dX7_macro_21 : decode cX7_macro 21 = .ok (.aload_n 0, 1) := by decide +kernel
theorem dX7_macro_22 : decode cX7_macro 22 = .ok (.getfield 89, 3) := by decide +kernel
theorem dX7_macro_25 : decode cX7_macro 25 = .ok (.bipush 80, 2) := by decide +kernel
theorem dX7_macro_27 : decode cX7_macro 27 = .ok (.if_icmp .eq 12, 3) := by decide +kernel
theorem dX7_macro_30 : decode cX7_macro 30 = .ok (.aload_n 0, 1) := by decide +kernel
theorem dX7_macro_31 : decode cX7_macro 31 = .ok (.getfield 108, 3) := by decide +kernel
theorem dX7_macro_34 : decode cX7_macro 34 = .ok (.bipush 8, 2) := by decide +kernel
theorem dX7_macro_36 : decode cX7_macro 36 = .ok (.if_icmp .ne 9, 3) := by decide +kernel
theorem dX7_macro_39 : decode cX7_macro 39 = .ok (.aload_n 0, 1) := by decide +kernel
theorem dX7_macro_40 : decode cX7_macro 40 = .ok (.iconst 2, 1) := by decide +kernel
theorem dX7_macro_41 : decode cX7_macro 41 = .ok (.invokevirtual 92, 3) := by decide +kernel
theorem dX7_macro_44 : decode cX7_macro 44 = .ok (.ireturn, 1) := by decide +kernel
theorem dX7_macro_45 : decode cX7_macro 45 = .ok (.aload_n 0, 1) := by decide +kernel
theorem dX7_macro_46 : decode cX7_macro 46 = .ok (.getfield 32, 3) := by decide +kernel
theorem dX7_macro_49 : decode cX7_macro 49 = .ok (.aload_n 0, 1) := by decide +kernel
theorem dX7_macro_50 : decode cX7_macro 50 = .ok (.getfield 108, 3) := by decide +kernel
theorem dX7_macro_53 : decode cX7_macro 53 = .ok (.aload_n 0, 1) := by decide +kernel
theorem dX7_macro_54 : decode cX7_macro 54 = .ok (.getfield 89, 3) := by decide +kernel
theorem dX7_macro_57 : decode cX7_macro 57 = .ok (.iastore, 1) := by decide +kernel
theorem dX7_macro_58 : decode cX7_macro 58 = .ok (.aload_n 0, 1) := by decide +kernel
theorem dX7_macro_59 : decode cX7_macro 59 = .ok (.aload_n 0, 1) := by decide +kernel
theorem dX7_macro_60 : decode cX7_macro 60 = .ok (.getfield 108, 3) := by decide +kernel
theorem dX7_macro_63 : decode cX7_macro 63 = .ok (.putfield 7, 3) := by decide +kernel
theorem dX7_macro_66 : decode cX7_macro 66 = .ok (.aload_n 0, 1) := by decide +kernel
theorem dX7_macro_67 : decode cX7_macro 67 = .ok (.dup, 1) := by decide +kernel
theorem dX7_macro_68 : decode cX7_macro 68 = .ok (.getfield 108, 3) := by decide +kernel
theorem dX7_macro_71 : decode cX7_macro 71 = .ok (.iconst 1, 1) := by decide +kernel
theorem dX7_macro_72 : decode cX7_macro 72 = .ok (.iadd, 1) := by decide +kernel
theorem dX7_macro_73 : decode cX7_macro 73 = .ok (.putfield 108, 3) := by decide +kernel
theorem dX7_macro_76 : decode cX7_macro 76 = .ok (.aload_n 0, 1) := by decide +kernel
theorem dX7_macro_77 : decode cX7_macro 77 = .ok (.bipush 11, 2) := by decide +kernel
theorem dX7_macro_79 : decode cX7_macro 79 = .ok (.iconst 0, 1) := by decide +kernel
theorem dX7_macro_80 : decode cX7_macro 80 = .ok (.iconst 0, 1) := by decide +kernel
theorem dX7_macro_81 : decode cX7_macro 81 = .ok (.iconst 0, 1) := by decide +kernel
theorem dX7_macro_82 : decode cX7_macro 82 = .ok (.invokevirtual 96, 3) := by decide +kernel
theorem dX7_macro_85 : decode cX7_macro 85 = .ok (.pop, 1) := by decide +kernel
theorem dX7_macro_86 : decode cX7_macro 86 = .ok (.aload_n 0, 1) := by decide +kernel
theorem dX7_macro_87 : decode cX7_macro 87 = .ok (.getfield 108, 3) := by decide +kernel
theorem dX7_macro_90 : decode cX7_macro 90 = .ok (.iconst 1, 1) := by decide +kernel
theorem dX7_macro_91 : decode cX7_macro 91 = .ok (.isub, 1) := by decide +kernel
theorem dX7_macro_92 : decode cX7_macro 92 = .ok (.ireturn, 1) := by decide +kernel
theorem dX7_endMacro_0 : decode cX7_endMacro 0 = .ok (.aload_n 0, 1) := by decide +kernel
theorem dX7_endMacro_1 : decode cX7_endMacro 1 = .ok (.getfield 7, 3) := by decide +kernel
theorem dX7_endMacro_4 : decode cX7_endMacro 4 = .ok (.iconst (-1), 1) := by decide +kernel
theorem dX7_endMacro_5 : decode cX7_endMacro 5 = .ok (.if_icmp .eq 10, 3) := by decide +kernel
theorem dX7_endMacro_8 : decode cX7_endMacro 8 = .ok (.aload_n 0, 1) := by decide +kernel
theorem dX7_endMacro_9 : decode cX7_endMacro 9 = .ok (.getfield 111, 3) := by decide +kernel
theorem dX7_endMacro_12 : decode cX7_endMacro 12 = .ok (.ifCond .le 9, 3) := by decide +kernel
theorem dX7_endMacro_15 : decode cX7_endMacro 15 = .ok (.aload_n 0, 1) := by decide +kernel
theorem dX7_endMacro_16 : decode cX7_endMacro 16 = .ok (.iconst 1, 1) := by decide +kernel
theorem dX7_endMacro_17 : decode cX7_endMacro 17 = .ok (.invokevirtual 92, 3) := by decide +kernel
theorem dX7_endMacro_20 : decode cX7_endMacro 20 = .ok (.ireturn, 1) := by decide +kernel
theorem dX7_endMacro_21 : decode cX7_endMacro 21 = .ok (.aload_n 0, 1) := by decide +kernel
theorem dX7_endMacro_22 : decode cX7_endMacro 22 = .ok (.getfield 89, 3) := by decide +kernel
theorem dX7_endMacro_25 : decode cX7_endMacro 25 = .ok (.bipush 80, 2) := by decide +kernel
theorem dX7_endMacro_27 : decode cX7_endMacro 27 = .ok (.if_icmp .ne 9, 3) := by decide +kernel
theorem dX7_endMacro_30 : decode cX7_endMacro 30 = .ok (.aload_n 0, 1) := by decide +kernel
theorem dX7_endMacro_31 : decode cX7_endMacro 31 = .ok (.iconst 2, 1) := by decide +kernel
theorem dX7_endMacro_32 : decode cX7_endMacro 32 = .ok (.invokevirtual 92, 3) := by decide +kernel
theorem dX7_endMacro_35 : decode cX7_endMacro 35 = .ok (.ireturn, 1) := by decide +kernel
theorem dX7_endMacro_36 : decode cX7_endMacro 36 = .ok (.aload_n 0, 1) := by decide +kernel
theorem dX7_endMacro_37 : decode cX7_endMacro 37 = .ok (.getfield 7, 3) := by decide +kernel
theorem dX7_endMacro_40 : decode cX7_endMacro 40 = .ok (.istore_n 1, 1) := by decide +kernel
theorem dX7_endMacro_41 : decode cX7_endMacro 41 = .ok (.aload_n 0, 1) := by decide +kernel
theorem dX7_endMacro_42 : decode cX7_endMacro 42 = .ok (.getfield 35, 3) := by decide +kernel
theorem dX7_endMacro_45 : decode cX7_endMacro 45 = .ok (.iload_n 1, 1) := by decide +kernel
theorem dX7_endMacro_46 : decode cX7_endMacro 46 = .ok (.aload_n 0, 1) := by decide +kernel
theorem dX7_endMacro_47 : decode cX7_endMacro 47 = .ok (.getfield 89, 3) := by decide +kernel
theorem dX7_endMacro_50 : decode cX7_endMacro 50 = .ok (.iastore, 1) := by decide +kernel
theorem dX7_endMacro_51 : decode cX7_endMacro 51 = .ok (.aload_n 0, 1) := by decide +kernel
theorem dX7_endMacro_52 : decode cX7_endMacro 52 = .ok (.getfield 26, 3) := by decide +kernel
theorem dX7_endMacro_55 : decode cX7_endMacro 55 = .ok (.aload_n 0, 1) := by decide +kernel
theorem dX7_endMacro_56 : decode cX7_endMacro 56 = .ok (.getfield 32, 3) := by decide +kernel
theorem dX7_endMacro_59 : decode cX7_endMacro 59 = .ok (.iload_n 1, 1) := by decide +kernel
theorem dX7_endMacro_60 : decode cX7_endMacro 60 = .ok (.iaload, 1) := by decide +kernel
theorem dX7_endMacro_61 : decode cX7_endMacro 61 = .ok (.aload_n 0, 1) := by decide +kernel
theorem dX7_endMacro_62 : decode cX7_endMacro 62 = .ok (.getfield 89, 3) := by decide +kernel
theorem dX7_endMacro_65 : decode cX7_endMacro 65 = .ok (.iastore, 1) := by decide +kernel
theorem dX7_endMacro_66 : decode cX7_endMacro 66 = .ok (.aload_n 0, 1) := by decide +kernel
theorem dX7_endMacro_67 : decode cX7_endMacro 67 = .ok (.iconst (-1), 1) := by decide +kernel
theorem dX7_endMacro_68 : decode cX7_endMacro 68 = .ok (.putfield 7, 3) := by decide +kernel
theorem dX7_endMacro_71 : decode cX7_endMacro 71 = .ok (.aload_n 0, 1) := by decide +kernel
theorem dX7_endMacro_72 : decode cX7_endMacro 72 = .ok (.bipush 12, 2) := by decide +kernel
theorem dX7_endMacro_74 : decode cX7_endMacro 74 = .ok (.iconst 0, 1) := by decide +kernel
theorem dX7_endMacro_75 : decode cX7_endMacro 75 = .ok (.iconst 0, 1) := by decide +kernel
theorem dX7_endMacro_76 : decode cX7_endMacro 76 = .ok (.iconst 0, 1) := by decide +kernel
theorem dX7_endMacro_77 : decode cX7_endMacro 77 = .ok (.invokevirtual 96, 3) := by decide +kernel
theorem dX7_endMacro_80 : decode cX7_endMacro 80 = .ok (.pop, 1) := by decide +kernel
theorem dX7_endMacro_81 : decode cX7_endMacro 81 = .ok (.iload_n 1, 1) := by decide +kernel
theorem dX7_endMacro_82 : decode cX7_endMacro 82 = .ok (.ireturn, 1) := by decide +kernel
theorem dX7_clear_0 : decode cX7_clear 0 = .ok (.aload_n 0, 1) := by decide +kernel
theorem dX7_clear_1 : decode cX7_clear 1 = .ok (.iconst 0, 1) := by decide +kernel
theorem dX7_clear_2 : decode cX7_clear 2 = .ok (.putfield 82, 3) := by decide +kernel
theorem dX7_clear_5 : decode cX7_clear 5 = .ok (.aload_n 0, 1) := by decide +kernel
theorem dX7_clear_6 : decode cX7_clear 6 = .ok (.getfield 89, 3) := by decide +kernel
theorem dX7_clear_9 : decode cX7_clear 9 = .ok (.istore_n 1, 1) := by decide +kernel
theorem dX7_clear_10 : decode cX7_clear 10 = .ok (.aload_n 0, 1) := by decide +kernel
theorem dX7_clear_11 : decode cX7_clear 11 = .ok (.iconst 0, 1) := by decide +kernel
theorem dX7_clear_12 : decode cX7_clear 12 = .ok (.putfield 89, 3) := by decide +kernel
theorem dX7_clear_15 : decode cX7_clear 15 = .ok (.aload_n 0, 1) := by decide +kernel
theorem dX7_clear_16 : decode cX7_clear 16 = .ok (.iconst 0, 1) := by decide +kernel
theorem dX7_clear_17 : decode cX7_clear 17 = .ok (.putfield 108, 3) := by decide +kernel
theorem dX7_clear_20 : decode cX7_clear 20 = .ok (.aload_n 0, 1) := by decide +kernel
theorem dX7_clear_21 : decode cX7_clear 21 = .ok (.iconst (-1), 1) := by decide +kernel
theorem dX7_clear_22 : decode cX7_clear 22 = .ok (.putfield 7, 3) := by decide +kernel
theorem dX7_clear_25 : decode cX7_clear 25 = .ok (.aload_n 0, 1) := by decide +kernel
theorem dX7_clear_26 : decode cX7_clear 26 = .ok (.iconst 0, 1) := by decide +kernel
theorem dX7_clear_27 : decode cX7_clear 27 = .ok (.putfield 111, 3) := by decide +kernel
theorem dX7_clear_30 : decode cX7_clear 30 = .ok (.iload_n 1, 1) := by decide +kernel
theorem dX7_clear_31 : decode cX7_clear 31 = .ok (.ireturn, 1) := by decide +kernel
theorem dX7_lines_0 : decode cX7_lines 0 = .ok (.aload_n 0, 1) := by decide +kernel
theorem dX7_lines_1 : decode cX7_lines 1 = .ok (.iconst 0, 1) := by decide +kernel
theorem dX7_lines_2 : decode cX7_lines 2 = .ok (.putfield 82, 3) := by decide +kernel
theorem dX7_lines_5 : decode cX7_lines 5 = .ok (.aload_n 0, 1) := by decide +kernel
theorem dX7_lines_6 : decode cX7_lines 6 = .ok (.getfield 89, 3) := by decide +kernel
theorem dX7_lines_9 : decode cX7_lines 9 = .ok (.ireturn, 1) := by decide +kernel
theorem dX7_macros_0 : decode cX7_macros 0 = .ok (.aload_n 0, 1) := by decide +kernel
theorem dX7_macros_1 : decode cX7_macros 1 = .ok (.iconst 0, 1) := by decide +kernel
theorem dX7_macros_2 : decode cX7_macros 2 = .ok (.putfield 82, 3) := by decide +kernel
theorem dX7_macros_5 : decode cX7_macros 5 = .ok (.aload_n 0, 1) := by decide +kernel
theorem dX7_macros_6 : decode cX7_macros 6 = .ok (.getfield 108, 3) := by decide +kernel
theorem dX7_macros_9 : decode cX7_macros 9 = .ok (.ireturn, 1) := by decide +kernel
theorem dX7_stops_0 : decode cX7_stops 0 = .ok (.aload_n 0, 1) := by decide +kernel
theorem dX7_stops_1 : decode cX7_stops 1 = .ok (.iload_n 1, 1) := by decide +kernel
theorem dX7_stops_2 : decode cX7_stops 2 = .ok (.putfield 38, 3) := by decide +kernel
theorem dX7_stops_5 : decode cX7_stops 5 = .ok (.aload_n 0, 1) := by decide +kernel
theorem dX7_stops_6 : decode cX7_stops 6 = .ok (.iload_n 2, 1) := by decide +kernel
theorem dX7_stops_7 : decode cX7_stops 7 = .ok (.putfield 118, 3) := by decide +kernel
theorem dX7_stops_10 : decode cX7_stops 10 = .ok (.iconst 0, 1) := by decide +kernel
theorem dX7_stops_11 : decode cX7_stops 11 = .ok (.ireturn, 1) := by decide +kernel
theorem dX7_newScope_0 : decode cX7_newScope 0 = .ok (.aload_n 0, 1) := by decide +kernel
theorem dX7_newScope_1 : decode cX7_newScope 1 = .ok (.getfield 42, 3) := by decide +kernel
theorem dX7_newScope_4 : decode cX7_newScope 4 = .ok (.aload_n 0, 1) := by decide +kernel
theorem dX7_newScope_5 : decode cX7_newScope 5 = .ok (.getfield 121, 3) := by decide +kernel
theorem dX7_newScope_8 : decode cX7_newScope 8 = .ok (.iload_n 1, 1) := by decide +kernel
theorem dX7_newScope_9 : decode cX7_newScope 9 = .ok (.iastore, 1) := by decide +kernel
theorem dX7_newScope_10 : decode cX7_newScope 10 = .ok (.aload_n 0, 1) := by decide +kernel
theorem dX7_newScope_11 : decode cX7_newScope 11 = .ok (.dup, 1) := by decide +kernel
theorem dX7_newScope_12 : decode cX7_newScope 12 = .ok (.getfield 121, 3) := by decide +kernel
theorem dX7_newScope_15 : decode cX7_newScope 15 = .ok (.iconst 1, 1) := by decide +kernel
theorem dX7_newScope_16 : decode cX7_newScope 16 = .ok (.iadd, 1) := by decide +kernel
theorem dX7_newScope_17 : decode cX7_newScope 17 = .ok (.putfield 121, 3) := by decide +kernel
theorem dX7_newScope_20 : decode cX7_newScope 20 = .ok (.aload_n 0, 1) := by decide +kernel
theorem dX7_newScope_21 : decode cX7_newScope 21 = .ok (.getfield 121, 3) := by decide +kernel
theorem dX7_newScope_24 : decode cX7_newScope 24 = .ok (.iconst 1, 1) := by decide +kernel
theorem dX7_newScope_25 : decode cX7_newScope 25 = .ok (.isub, 1) := by decide +kernel
theorem dX7_newScope_26 : decode cX7_newScope 26 = .ok (.ireturn, 1) := by decide +kernel
theorem dX7_most_0 : decode cX7_most 0 = .ok (.iload_n 0, 1) := by decide +kernel
theorem dX7_most_1 : decode cX7_most 1 = .ok (.ifCond .eq 13, 3) := by decide +kernel
theorem dX7_most_4 : decode cX7_most 4 = .ok (.iload_n 0, 1) := by decide +kernel
theorem dX7_most_5 : decode cX7_most 5 = .ok (.iconst 3, 1) := by decide +kernel
theorem dX7_most_6 : decode cX7_most 6 = .ok (.if_icmp .eq 8, 3) := by decide +kernel
theorem dX7_most_9 : decode cX7_most 9 = .ok (.iload_n 0, 1) := by decide +kernel
theorem dX7_most_10 : decode cX7_most 10 = .ok (.iconst 4, 1) := by decide +kernel
theorem dX7_most_11 : decode cX7_most 11 = .ok (.if_icmp .ne 8, 3) := by decide +kernel
theorem dX7_most_14 : decode cX7_most 14 = .ok (.bipush 19, 2) := by decide +kernel
theorem dX7_most_16 : decode cX7_most 16 = .ok (.goto 27, 3) := by decide +kernel
theorem dX7_most_19 : decode cX7_most 19 = .ok (.iload_n 0, 1) := by decide +kernel
theorem dX7_most_20 : decode cX7_most 20 = .ok (.iconst 2, 1) := by decide +kernel
theorem dX7_most_21 : decode cX7_most 21 = .ok (.if_icmp .ne 8, 3) := by decide +kernel
theorem dX7_most_24 : decode cX7_most 24 = .ok (.bipush 99, 2) := by decide +kernel
theorem dX7_most_26 : decode cX7_most 26 = .ok (.goto 17, 3) := by decide +kernel
theorem dX7_most_29 : decode cX7_most 29 = .ok (.iload_n 0, 1) := by decide +kernel
theorem dX7_most_30 : decode cX7_most 30 = .ok (.bipush 8, 2) := by decide +kernel
theorem dX7_most_32 : decode cX7_most 32 = .ok (.if_icmp .ne 8, 3) := by decide +kernel
theorem dX7_most_35 : decode cX7_most 35 = .ok (.bipush 9, 2) := by decide +kernel
theorem dX7_most_37 : decode cX7_most 37 = .ok (.goto 6, 3) := by decide +kernel
theorem dX7_most_40 : decode cX7_most 40 = .ok (.sipush 999, 3) := by decide +kernel
theorem dX7_most_43 : decode cX7_most 43 = .ok (.ireturn, 1) := by decide +kernel
theorem dX7_isDefined_0 : decode cX7_isDefined 0 = .ok (.iconst 0, 1) := by decide +kernel
theorem dX7_isDefined_1 : decode cX7_isDefined 1 = .ok (.istore_n 3, 1) := by decide +kernel
theorem dX7_isDefined_2 : decode cX7_isDefined 2 = .ok (.iload_n 3, 1) := by decide +kernel
theorem dX7_isDefined_3 : decode cX7_isDefined 3 = .ok (.aload_n 0, 1) := by decide +kernel
theorem dX7_isDefined_4 : decode cX7_isDefined 4 = .ok (.getfield 124, 3) := by decide +kernel
theorem dX7_isDefined_7 : decode cX7_isDefined 7 = .ok (.if_icmp .ge 40, 3) := by decide +kernel
theorem dX7_isDefined_10 : decode cX7_isDefined 10 = .ok (.aload_n 0, 1) := by decide +kernel
theorem dX7_isDefined_11 : decode cX7_isDefined 11 = .ok (.getfield 48, 3) := by decide +kernel
theorem dX7_isDefined_14 : decode cX7_isDefined 14 = .ok (.iload_n 3, 1) := by decide +kernel
theorem dX7_isDefined_15 : decode cX7_isDefined 15 = .ok (.iaload, 1) := by decide +kernel
theorem dX7_isDefined_16 : decode cX7_isDefined 16 = .ok (.ifCond .ne 25, 3) := by decide +kernel
theorem dX7_isDefined_19 : decode cX7_isDefined 19 = .ok (.aload_n 0, 1) := by decide +kernel
theorem dX7_isDefined_20 : decode cX7_isDefined 20 = .ok (.getfield 51, 3) := by decide +kernel
theorem dX7_isDefined_23 : decode cX7_isDefined 23 = .ok (.iload_n 3, 1) := by decide +kernel
theorem dX7_isDefined_24 : decode cX7_isDefined 24 = .ok (.iaload, 1) := by decide +kernel
theorem dX7_isDefined_25 : decode cX7_isDefined 25 = .ok (.iload_n 1, 1) := by decide +kernel
theorem dX7_isDefined_26 : decode cX7_isDefined 26 = .ok (.if_icmp .ne 15, 3) := by decide +kernel
theorem dX7_isDefined_29 : decode cX7_isDefined 29 = .ok (.aload_n 0, 1) := by decide +kernel
theorem dX7_isDefined_30 : decode cX7_isDefined 30 = .ok (.getfield 54, 3) := by decide +kernel
theorem dX7_isDefined_33 : decode cX7_isDefined 33 = .ok (.iload_n 3, 1) := by decide +kernel
theorem dX7_isDefined_34 : decode cX7_isDefined 34 = .ok (.iaload, 1) := by decide +kernel
theorem dX7_isDefined_35 : decode cX7_isDefined 35 = .ok (.iload_n 2, 1) := by decide +kernel
theorem dX7_isDefined_36 : decode cX7_isDefined 36 = .ok (.if_icmp .ne 5, 3) := by decide +kernel
theorem dX7_isDefined_39 : decode cX7_isDefined 39 = .ok (.iconst 1, 1) := by decide +kernel
theorem dX7_isDefined_40 : decode cX7_isDefined 40 = .ok (.ireturn, 1) := by decide +kernel
theorem dX7_isDefined_41 : decode cX7_isDefined 41 = .ok (.iinc 3 1, 3) := by decide +kernel
theorem dX7_isDefined_44 : decode cX7_isDefined 44 = .ok (.goto (-42), 3) := by decide +kernel
theorem dX7_isDefined_47 : decode cX7_isDefined 47 = .ok (.iconst 0, 1) := by decide +kernel
theorem dX7_isDefined_48 : decode cX7_isDefined 48 = .ok (.ireturn, 1) := by decide +kernel
theorem dX7_walks_0 : decode cX7_walks 0 = .ok (.iload_n 1, 1) := by decide +kernel
theorem dX7_walks_1 : decode cX7_walks 1 = .ok (.istore 9, 2) := by decide +kernel
theorem dX7_walks_3 : decode cX7_walks 3 = .ok (.iload 9, 2) := by decide +kernel
theorem dX7_walks_5 : decode cX7_walks 5 = .ok (.iload_n 2, 1) := by decide +kernel
theorem dX7_walks_6 : decode cX7_walks 6 = .ok (.if_icmp .ge 493, 3) := by decide +kernel
theorem dX7_walks_9 : decode cX7_walks 9 = .ok (.aload_n 0, 1) := by decide +kernel
theorem dX7_walks_10 : decode cX7_walks 10 = .ok (.getfield 13, 3) := by decide +kernel
theorem dX7_walks_13 : decode cX7_walks 13 = .ok (.iload 9, 2) := by decide +kernel
theorem dX7_walks_15 : decode cX7_walks 15 = .ok (.iaload, 1) := by decide +kernel
theorem dX7_walks_16 : decode cX7_walks 16 = .ok (.istore 10, 2) := by decide +kernel
theorem dX7_walks_18 : decode cX7_walks 18 = .ok (.iload 10, 2) := by decide +kernel
theorem dX7_walks_20 : decode cX7_walks 20 = .ok (.bipush 11, 2) := by decide +kernel
theorem dX7_walks_22 : decode cX7_walks 22 = .ok (.if_icmp .ne 15, 3) := by decide +kernel
theorem dX7_walks_25 : decode cX7_walks 25 = .ok (.aload_n 0, 1) := by decide +kernel
theorem dX7_walks_26 : decode cX7_walks 26 = .ok (.getfield 26, 3) := by decide +kernel
theorem dX7_walks_29 : decode cX7_walks 29 = .ok (.iload 9, 2) := by decide +kernel
theorem dX7_walks_31 : decode cX7_walks 31 = .ok (.iaload, 1) := by decide +kernel
theorem dX7_walks_32 : decode cX7_walks 32 = .ok (.istore 9, 2) := by decide +kernel
theorem dX7_walks_34 : decode cX7_walks 34 = .ok (.goto 459, 3) := by decide +kernel
theorem dX7_walks_37 : decode cX7_walks 37 = .ok (.aload_n 0, 1) := by decide +kernel
theorem dX7_walks_38 : decode cX7_walks 38 = .ok (.getfield 17, 3) := by decide +kernel
theorem dX7_walks_41 : decode cX7_walks 41 = .ok (.iload 9, 2) := by decide +kernel
theorem dX7_walks_43 : decode cX7_walks 43 = .ok (.iaload, 1) := by decide +kernel
theorem dX7_walks_44 : decode cX7_walks 44 = .ok (.iconst (-1), 1) := by decide +kernel
theorem dX7_walks_45 : decode cX7_walks 45 = .ok (.if_icmp .ne 8, 3) := by decide +kernel
theorem dX7_walks_48 : decode cX7_walks 48 = .ok (.iload 4, 2) := by decide +kernel
theorem dX7_walks_50 : decode cX7_walks 50 = .ok (.goto 27, 3) := by decide +kernel
theorem dX7_walks_53 : decode cX7_walks 53 = .ok (.aload_n 0, 1) := by decide +kernel
theorem dX7_walks_54 : decode cX7_walks 54 = .ok (.getfield 17, 3) := by decide +kernel
theorem dX7_walks_57 : decode cX7_walks 57 = .ok (.iload 9, 2) := by decide +kernel
theorem dX7_walks_59 : decode cX7_walks 59 = .ok (.iaload, 1) := by decide +kernel
theorem dX7_walks_60 : decode cX7_walks 60 = .ok (.bipush (-2), 2) := by decide +kernel
theorem dX7_walks_62 : decode cX7_walks 62 = .ok (.if_icmp .ne 8, 3) := by decide +kernel
theorem dX7_walks_65 : decode cX7_walks 65 = .ok (.iload 6, 2) := by decide +kernel
theorem dX7_walks_67 : decode cX7_walks 67 = .ok (.goto 10, 3) := by decide +kernel
theorem dX7_walks_70 : decode cX7_walks 70 = .ok (.aload_n 0, 1) := by decide +kernel
theorem dX7_walks_71 : decode cX7_walks 71 = .ok (.getfield 17, 3) := by decide +kernel
theorem dX7_walks_74 : decode cX7_walks 74 = .ok (.iload 9, 2) := by decide +kernel
theorem dX7_walks_76 : decode cX7_walks 76 = .ok (.iaload, 1) := by decide +kernel
theorem dX7_walks_77 : decode cX7_walks 77 = .ok (.istore 11, 2) := by decide +kernel
theorem dX7_walks_79 : decode cX7_walks 79 = .ok (.aload_n 0, 1) := by decide +kernel
theorem dX7_walks_80 : decode cX7_walks 80 = .ok (.getfield 17, 3) := by decide +kernel
theorem dX7_walks_83 : decode cX7_walks 83 = .ok (.iload 9, 2) := by decide +kernel
theorem dX7_walks_85 : decode cX7_walks 85 = .ok (.iaload, 1) := by decide +kernel
theorem dX7_walks_86 : decode cX7_walks 86 = .ok (.iconst (-1), 1) := by decide +kernel
theorem dX7_walks_87 : decode cX7_walks 87 = .ok (.if_icmp .ne 8, 3) := by decide +kernel
theorem dX7_walks_90 : decode cX7_walks 90 = .ok (.iload 5, 2) := by decide +kernel
theorem dX7_walks_92 : decode cX7_walks 92 = .ok (.goto 21, 3) := by decide +kernel
theorem dX7_walks_95 : decode cX7_walks 95 = .ok (.aload_n 0, 1) := by decide +kernel
theorem dX7_walks_96 : decode cX7_walks 96 = .ok (.getfield 17, 3) := by decide +kernel
theorem dX7_walks_99 : decode cX7_walks 99 = .ok (.iload 9, 2) := by decide +kernel
theorem dX7_walks_101 : decode cX7_walks 101 = .ok (.iaload, 1) := by decide +kernel
theorem dX7_walks_102 : decode cX7_walks 102 = .ok (.bipush (-2), 2) := by decide +kernel
theorem dX7_walks_104 : decode cX7_walks 104 = .ok (.if_icmp .ne 8, 3) := by decide +kernel
theorem dX7_walks_107 : decode cX7_walks 107 = .ok (.iload 7, 2) := by decide +kernel
theorem dX7_walks_109 : decode cX7_walks 109 = .ok (.goto 4, 3) := by decide +kernel
theorem dX7_walks_112 : decode cX7_walks 112 = .ok (.iload_n 3, 1) := by decide +kernel
theorem dX7_walks_113 : decode cX7_walks 113 = .ok (.istore 12, 2) := by decide +kernel
theorem dX7_walks_115 : decode cX7_walks 115 = .ok (.aload_n 0, 1) := by decide +kernel
theorem dX7_walks_116 : decode cX7_walks 116 = .ok (.getfield 20, 3) := by decide +kernel
theorem dX7_walks_119 : decode cX7_walks 119 = .ok (.iload 9, 2) := by decide +kernel
theorem dX7_walks_121 : decode cX7_walks 121 = .ok (.iaload, 1) := by decide +kernel
theorem dX7_walks_122 : decode cX7_walks 122 = .ok (.iconst (-1), 1) := by decide +kernel
theorem dX7_walks_123 : decode cX7_walks 123 = .ok (.if_icmp .ne 8, 3) := by decide +kernel
theorem dX7_walks_126 : decode cX7_walks 126 = .ok (.iload 4, 2) := by decide +kernel
theorem dX7_walks_128 : decode cX7_walks 128 = .ok (.goto 27, 3) := by decide +kernel
theorem dX7_walks_131 : decode cX7_walks 131 = .ok (.aload_n 0, 1) := by decide +kernel
theorem dX7_walks_132 : decode cX7_walks 132 = .ok (.getfield 20, 3) := by decide +kernel
theorem dX7_walks_135 : decode cX7_walks 135 = .ok (.iload 9, 2) := by decide +kernel
theorem dX7_walks_137 : decode cX7_walks 137 = .ok (.iaload, 1) := by decide +kernel
theorem dX7_walks_138 : decode cX7_walks 138 = .ok (.bipush (-2), 2) := by decide +kernel
theorem dX7_walks_140 : decode cX7_walks 140 = .ok (.if_icmp .ne 8, 3) := by decide +kernel
theorem dX7_walks_143 : decode cX7_walks 143 = .ok (.iload 6, 2) := by decide +kernel
theorem dX7_walks_145 : decode cX7_walks 145 = .ok (.goto 10, 3) := by decide +kernel
theorem dX7_walks_148 : decode cX7_walks 148 = .ok (.aload_n 0, 1) := by decide +kernel
theorem dX7_walks_149 : decode cX7_walks 149 = .ok (.getfield 20, 3) := by decide +kernel
theorem dX7_walks_152 : decode cX7_walks 152 = .ok (.iload 9, 2) := by decide +kernel
theorem dX7_walks_154 : decode cX7_walks 154 = .ok (.iaload, 1) := by decide +kernel
theorem dX7_walks_155 : decode cX7_walks 155 = .ok (.istore 13, 2) := by decide +kernel
theorem dX7_walks_157 : decode cX7_walks 157 = .ok (.aload_n 0, 1) := by decide +kernel
theorem dX7_walks_158 : decode cX7_walks 158 = .ok (.getfield 20, 3) := by decide +kernel
theorem dX7_walks_161 : decode cX7_walks 161 = .ok (.iload 9, 2) := by decide +kernel
theorem dX7_walks_163 : decode cX7_walks 163 = .ok (.iaload, 1) := by decide +kernel
theorem dX7_walks_164 : decode cX7_walks 164 = .ok (.iconst (-1), 1) := by decide +kernel
theorem dX7_walks_165 : decode cX7_walks 165 = .ok (.if_icmp .ne 8, 3) := by decide +kernel
theorem dX7_walks_168 : decode cX7_walks 168 = .ok (.iload 5, 2) := by decide +kernel
theorem dX7_walks_170 : decode cX7_walks 170 = .ok (.goto 21, 3) := by decide +kernel
theorem dX7_walks_173 : decode cX7_walks 173 = .ok (.aload_n 0, 1) := by decide +kernel
theorem dX7_walks_174 : decode cX7_walks 174 = .ok (.getfield 20, 3) := by decide +kernel
theorem dX7_walks_177 : decode cX7_walks 177 = .ok (.iload 9, 2) := by decide +kernel
theorem dX7_walks_179 : decode cX7_walks 179 = .ok (.iaload, 1) := by decide +kernel
theorem dX7_walks_180 : decode cX7_walks 180 = .ok (.bipush (-2), 2) := by decide +kernel
theorem dX7_walks_182 : decode cX7_walks 182 = .ok (.if_icmp .ne 8, 3) := by decide +kernel
theorem dX7_walks_185 : decode cX7_walks 185 = .ok (.iload 7, 2) := by decide +kernel
theorem dX7_walks_187 : decode cX7_walks 187 = .ok (.goto 4, 3) := by decide +kernel
theorem dX7_walks_190 : decode cX7_walks 190 = .ok (.iload_n 3, 1) := by decide +kernel
theorem dX7_walks_191 : decode cX7_walks 191 = .ok (.istore 14, 2) := by decide +kernel
theorem dX7_walks_193 : decode cX7_walks 193 = .ok (.aload_n 0, 1) := by decide +kernel
theorem dX7_walks_194 : decode cX7_walks 194 = .ok (.getfield 17, 3) := by decide +kernel
theorem dX7_walks_197 : decode cX7_walks 197 = .ok (.iload 9, 2) := by decide +kernel
theorem dX7_walks_199 : decode cX7_walks 199 = .ok (.iaload, 1) := by decide +kernel
theorem dX7_walks_200 : decode cX7_walks 200 = .ok (.ifCond .ge 22, 3) := by decide +kernel
theorem dX7_walks_203 : decode cX7_walks 203 = .ok (.iload 11, 2) := by decide +kernel
theorem dX7_walks_205 : decode cX7_walks 205 = .ok (.iload 10, 2) := by decide +kernel
theorem dX7_walks_207 : decode cX7_walks 207 = .ok (.invokestatic 127, 3) := by decide +kernel
theorem dX7_walks_210 : decode cX7_walks 210 = .ok (.if_icmp .le 12, 3) := by decide +kernel
theorem dX7_walks_213 : decode cX7_walks 213 = .ok (.aload_n 0, 1) := by decide +kernel
theorem dX7_walks_214 : decode cX7_walks 214 = .ok (.bipush 97, 2) := by decide +kernel
theorem dX7_walks_216 : decode cX7_walks 216 = .ok (.iload 9, 2) := by decide +kernel
theorem dX7_walks_218 : decode cX7_walks 218 = .ok (.invokevirtual 130, 3) := by decide +kernel
theorem dX7_walks_221 : decode cX7_walks 221 = .ok (.ireturn, 1) := by decide +kernel
theorem dX7_walks_222 : decode cX7_walks 222 = .ok (.iload 10, 2) := by decide +kernel
theorem dX7_walks_224 : decode cX7_walks 224 = .ok (.ifCond .ne 23, 3) := by decide +kernel
theorem dX7_walks_227 : decode cX7_walks 227 = .ok (.aload_n 0, 1) := by decide +kernel
theorem dX7_walks_228 : decode cX7_walks 228 = .ok (.iload 11, 2) := by decide +kernel
theorem dX7_walks_230 : decode cX7_walks 230 = .ok (.iload 12, 2) := by decide +kernel
theorem dX7_walks_232 : decode cX7_walks 232 = .ok (.invokevirtual 134, 3) := by decide +kernel
theorem dX7_walks_235 : decode cX7_walks 235 = .ok (.ifCond .eq 12, 3) := by decide +kernel
theorem dX7_walks_238 : decode cX7_walks 238 = .ok (.aload_n 0, 1) := by decide +kernel
theorem dX7_walks_239 : decode cX7_walks 239 = .ok (.bipush 100, 2) := by decide +kernel
theorem dX7_walks_241 : decode cX7_walks 241 = .ok (.iload 9, 2) := by decide +kernel
theorem dX7_walks_243 : decode cX7_walks 243 = .ok (.invokevirtual 130, 3) := by decide +kernel
theorem dX7_walks_246 : decode cX7_walks 246 = .ok (.ireturn, 1) := by decide +kernel
theorem dX7_walks_247 : decode cX7_walks 247 = .ok (.aload_n 0, 1) := by decide +kernel
theorem dX7_walks_248 : decode cX7_walks 248 = .ok (.getfield 137, 3) := by decide +kernel
theorem dX7_walks_251 : decode cX7_walks 251 = .ok (.sipush 1000, 3) := by decide +kernel
theorem dX7_walks_254 : decode cX7_walks 254 = .ok (.if_icmp .eq 20, 3) := by decide +kernel
theorem dX7_walks_257 : decode cX7_walks 257 = .ok (.iload 10, 2) := by decide +kernel
theorem dX7_walks_259 : decode cX7_walks 259 = .ok (.bipush 6, 2) := by decide +kernel
theorem dX7_walks_261 : decode cX7_walks 261 = .ok (.if_icmp .ge 22, 3) := by decide +kernel
theorem dX7_walks_264 : decode cX7_walks 264 = .ok (.aload_n 0, 1) := by decide +kernel
theorem dX7_walks_265 : decode cX7_walks 265 = .ok (.getfield 124, 3) := by decide +kernel
theorem dX7_walks_268 : decode cX7_walks 268 = .ok (.sipush 200, 3) := by decide +kernel
theorem dX7_walks_271 : decode cX7_walks 271 = .ok (.if_icmp .ne 12, 3) := by decide +kernel
theorem dX7_walks_274 : decode cX7_walks 274 = .ok (.aload_n 0, 1) := by decide +kernel
theorem dX7_walks_275 : decode cX7_walks 275 = .ok (.bipush 102, 2) := by decide +kernel
theorem dX7_walks_277 : decode cX7_walks 277 = .ok (.iload 9, 2) := by decide +kernel
theorem dX7_walks_279 : decode cX7_walks 279 = .ok (.invokevirtual 130, 3) := by decide +kernel
theorem dX7_walks_282 : decode cX7_walks 282 = .ok (.ireturn, 1) := by decide +kernel
theorem dX7_walks_283 : decode cX7_walks 283 = .ok (.aload_n 0, 1) := by decide +kernel
theorem dX7_walks_284 : decode cX7_walks 284 = .ok (.dup, 1) := by decide +kernel
theorem dX7_walks_285 : decode cX7_walks 285 = .ok (.getfield 137, 3) := by decide +kernel
theorem dX7_walks_288 : decode cX7_walks 288 = .ok (.iconst 1, 1) := by decide +kernel
theorem dX7_walks_289 : decode cX7_walks 289 = .ok (.iadd, 1) := by decide +kernel
theorem dX7_walks_290 : decode cX7_walks 290 = .ok (.putfield 137, 3) := by decide +kernel
theorem dX7_walks_293 : decode cX7_walks 293 = .ok (.iload 10, 2) := by decide +kernel
theorem dX7_walks_295 : decode cX7_walks 295 = .ok (.bipush 6, 2) := by decide +kernel
theorem dX7_walks_297 : decode cX7_walks 297 = .ok (.if_icmp .ge 15, 3) := by decide +kernel
theorem dX7_walks_300 : decode cX7_walks 300 = .ok (.aload_n 0, 1) := by decide +kernel
theorem dX7_walks_301 : decode cX7_walks 301 = .ok (.iload 9, 2) := by decide +kernel
theorem dX7_walks_303 : decode cX7_walks 303 = .ok (.iload 11, 2) := by decide +kernel
theorem dX7_walks_305 : decode cX7_walks 305 = .ok (.iload 12, 2) := by decide +kernel
theorem dX7_walks_307 : decode cX7_walks 307 = .ok (.iload 8, 2) := by decide +kernel
theorem dX7_walks_309 : decode cX7_walks 309 = .ok (.invokevirtual 140, 3) := by decide +kernel
theorem dX7_walks_312 : decode cX7_walks 312 = .ok (.iload 10, 2) := by decide +kernel
theorem dX7_walks_314 : decode cX7_walks 314 = .ok (.bipush 6, 2) := by decide +kernel
theorem dX7_walks_316 : decode cX7_walks 316 = .ok (.if_icmp .ne 55, 3) := by decide +kernel
theorem dX7_walks_319 : decode cX7_walks 319 = .ok (.aload_n 0, 1) := by decide +kernel
theorem dX7_walks_320 : decode cX7_walks 320 = .ok (.aload_n 0, 1) := by decide +kernel
theorem dX7_walks_321 : decode cX7_walks 321 = .ok (.getfield 32, 3) := by decide +kernel
theorem dX7_walks_324 : decode cX7_walks 324 = .ok (.aload_n 0, 1) := by decide +kernel
theorem dX7_walks_325 : decode cX7_walks 325 = .ok (.getfield 23, 3) := by decide +kernel
theorem dX7_walks_328 : decode cX7_walks 328 = .ok (.iload 9, 2) := by decide +kernel
theorem dX7_walks_330 : decode cX7_walks 330 = .ok (.iaload, 1) := by decide +kernel
theorem dX7_walks_331 : decode cX7_walks 331 = .ok (.iaload, 1) := by decide +kernel
theorem dX7_walks_332 : decode cX7_walks 332 = .ok (.iconst 1, 1) := by decide +kernel
theorem dX7_walks_333 : decode cX7_walks 333 = .ok (.iadd, 1) := by decide +kernel
theorem dX7_walks_334 : decode cX7_walks 334 = .ok (.aload_n 0, 1) := by decide +kernel
theorem dX7_walks_335 : decode cX7_walks 335 = .ok (.getfield 35, 3) := by decide +kernel
theorem dX7_walks_338 : decode cX7_walks 338 = .ok (.aload_n 0, 1) := by decide +kernel
theorem dX7_walks_339 : decode cX7_walks 339 = .ok (.getfield 23, 3) := by decide +kernel
theorem dX7_walks_342 : decode cX7_walks 342 = .ok (.iload 9, 2) := by decide +kernel
theorem dX7_walks_344 : decode cX7_walks 344 = .ok (.iaload, 1) := by decide +kernel
theorem dX7_walks_345 : decode cX7_walks 345 = .ok (.iaload, 1) := by decide +kernel
theorem dX7_walks_346 : decode cX7_walks 346 = .ok (.aload_n 0, 1) := by decide +kernel
theorem dX7_walks_347 : decode cX7_walks 347 = .ok (.iconst 0, 1) := by decide +kernel
theorem dX7_walks_348 : decode cX7_walks 348 = .ok (.invokevirtual 144, 3) := by decide +kernel
theorem dX7_walks_351 : decode cX7_walks 351 = .ok (.iload 11, 2) := by decide +kernel
theorem dX7_walks_353 : decode cX7_walks 353 = .ok (.iload 12, 2) := by decide +kernel
theorem dX7_walks_355 : decode cX7_walks 355 = .ok (.iload 13, 2) := by decide +kernel
theorem dX7_walks_357 : decode cX7_walks 357 = .ok (.iload 14, 2) := by decide +kernel
theorem dX7_walks_359 : decode cX7_walks 359 = .ok (.iload 8, 2) := by decide +kernel
theorem dX7_walks_361 : decode cX7_walks 361 = .ok (.iconst 1, 1) := by decide +kernel
theorem dX7_walks_362 : decode cX7_walks 362 = .ok (.iadd, 1) := by decide +kernel
theorem dX7_walks_363 : decode cX7_walks 363 = .ok (.invokevirtual 147, 3) := by decide +kernel
theorem dX7_walks_366 : decode cX7_walks 366 = .ok (.ifCond .ne 5, 3) := by decide +kernel
theorem dX7_walks_369 : decode cX7_walks 369 = .ok (.iconst 0, 1) := by decide +kernel
theorem dX7_walks_370 : decode cX7_walks 370 = .ok (.ireturn, 1) := by decide +kernel
theorem dX7_walks_371 : decode cX7_walks 371 = .ok (.iload 10, 2) := by decide +kernel
theorem dX7_walks_373 : decode cX7_walks 373 = .ok (.bipush 7, 2) := by decide +kernel
theorem dX7_walks_375 : decode cX7_walks 375 = .ok (.if_icmp .ge 6, 3) := by decide +kernel
theorem dX7_walks_378 : decode cX7_walks 378 = .ok (.goto 115, 3) := by decide +kernel
theorem dX7_walks_381 : decode cX7_walks 381 = .ok (.iload 10, 2) := by decide +kernel
theorem dX7_walks_383 : decode cX7_walks 383 = .ok (.bipush 7, 2) := by decide +kernel
theorem dX7_walks_385 : decode cX7_walks 385 = .ok (.if_icmp .ne 7, 3) := by decide +kernel
theorem dX7_walks_388 : decode cX7_walks 388 = .ok (.iconst 1, 1) := by decide +kernel
theorem dX7_walks_389 : decode cX7_walks 389 = .ok (.goto 27, 3) := by decide +kernel
theorem dX7_walks_392 : decode cX7_walks 392 = .ok (.iload 10, 2) := by decide +kernel
theorem dX7_walks_394 : decode cX7_walks 394 = .ok (.bipush 8, 2) := by decide +kernel
theorem dX7_walks_396 : decode cX7_walks 396 = .ok (.if_icmp .ne 8, 3) := by decide +kernel
theorem dX7_walks_399 : decode cX7_walks 399 = .ok (.iload 11, 2) := by decide +kernel
theorem dX7_walks_401 : decode cX7_walks 401 = .ok (.goto 15, 3) := by decide +kernel
theorem dX7_walks_404 : decode cX7_walks 404 = .ok (.iload 11, 2) := by decide +kernel
theorem dX7_walks_406 : decode cX7_walks 406 = .ok (.iload 13, 2) := by decide +kernel
theorem dX7_walks_408 : decode cX7_walks 408 = .ok (.if_icmp .ne 7, 3) := by decide +kernel
theorem dX7_walks_411 : decode cX7_walks 411 = .ok (.iconst 1, 1) := by decide +kernel
theorem dX7_walks_412 : decode cX7_walks 412 = .ok (.goto 4, 3) := by decide +kernel
theorem dX7_walks_415 : decode cX7_walks 415 = .ok (.iconst 0, 1) := by decide +kernel
theorem dX7_walks_416 : decode cX7_walks 416 = .ok (.istore 15, 2) := by decide +kernel
theorem dX7_walks_418 : decode cX7_walks 418 = .ok (.iconst 0, 1) := by decide +kernel
theorem dX7_walks_419 : decode cX7_walks 419 = .ok (.istore 16, 2) := by decide +kernel
theorem dX7_walks_421 : decode cX7_walks 421 = .ok (.iload 16, 2) := by decide +kernel
theorem dX7_walks_423 : decode cX7_walks 423 = .ok (.iload 15, 2) := by decide +kernel
theorem dX7_walks_425 : decode cX7_walks 425 = .ok (.if_icmp .ge 59, 3) := by decide +kernel
theorem dX7_walks_428 : decode cX7_walks 428 = .ok (.iload 10, 2) := by decide +kernel
theorem dX7_walks_430 : decode cX7_walks 430 = .ok (.bipush 9, 2) := by decide +kernel
theorem dX7_walks_432 : decode cX7_walks 432 = .ok (.if_icmp .ne 7, 3) := by decide +kernel
theorem dX7_walks_435 : decode cX7_walks 435 = .ok (.iload_n 3, 1) := by decide +kernel
theorem dX7_walks_436 : decode cX7_walks 436 = .ok (.goto 8, 3) := by decide +kernel
theorem dX7_walks_439 : decode cX7_walks 439 = .ok (.aload_n 0, 1) := by decide +kernel
theorem dX7_walks_440 : decode cX7_walks 440 = .ok (.iload_n 3, 1) := by decide +kernel
theorem dX7_walks_441 : decode cX7_walks 441 = .ok (.invokevirtual 144, 3) := by decide +kernel
theorem dX7_walks_444 : decode cX7_walks 444 = .ok (.istore 17, 2) := by decide +kernel
theorem dX7_walks_446 : decode cX7_walks 446 = .ok (.aload_n 0, 1) := by decide +kernel
theorem dX7_walks_447 : decode cX7_walks 447 = .ok (.iload 9, 2) := by decide +kernel
theorem dX7_walks_449 : decode cX7_walks 449 = .ok (.iconst 1, 1) := by decide +kernel
theorem dX7_walks_450 : decode cX7_walks 450 = .ok (.iadd, 1) := by decide +kernel
theorem dX7_walks_451 : decode cX7_walks 451 = .ok (.aload_n 0, 1) := by decide +kernel
theorem dX7_walks_452 : decode cX7_walks 452 = .ok (.getfield 26, 3) := by decide +kernel
theorem dX7_walks_455 : decode cX7_walks 455 = .ok (.iload 9, 2) := by decide +kernel
theorem dX7_walks_457 : decode cX7_walks 457 = .ok (.iaload, 1) := by decide +kernel
theorem dX7_walks_458 : decode cX7_walks 458 = .ok (.iload 17, 2) := by decide +kernel
theorem dX7_walks_460 : decode cX7_walks 460 = .ok (.iload 4, 2) := by decide +kernel
theorem dX7_walks_462 : decode cX7_walks 462 = .ok (.iload 5, 2) := by decide +kernel
theorem dX7_walks_464 : decode cX7_walks 464 = .ok (.iload 6, 2) := by decide +kernel
theorem dX7_walks_466 : decode cX7_walks 466 = .ok (.iload 7, 2) := by decide +kernel
theorem dX7_walks_468 : decode cX7_walks 468 = .ok (.iload 8, 2) := by decide +kernel
theorem dX7_walks_470 : decode cX7_walks 470 = .ok (.invokevirtual 147, 3) := by decide +kernel
theorem dX7_walks_473 : decode cX7_walks 473 = .ok (.ifCond .ne 5, 3) := by decide +kernel
theorem dX7_walks_476 : decode cX7_walks 476 = .ok (.iconst 0, 1) := by decide +kernel
theorem dX7_walks_477 : decode cX7_walks 477 = .ok (.ireturn, 1) := by decide +kernel
theorem dX7_walks_478 : decode cX7_walks 478 = .ok (.iinc 16 1, 3) := by decide +kernel
theorem dX7_walks_481 : decode cX7_walks 481 = .ok (.goto (-60), 3) := by decide +kernel
theorem dX7_walks_484 : decode cX7_walks 484 = .ok (.aload_n 0, 1) := by decide +kernel
theorem dX7_walks_485 : decode cX7_walks 485 = .ok (.getfield 26, 3) := by decide +kernel
theorem dX7_walks_488 : decode cX7_walks 488 = .ok (.iload 9, 2) := by decide +kernel
theorem dX7_walks_490 : decode cX7_walks 490 = .ok (.iaload, 1) := by decide +kernel
theorem dX7_walks_491 : decode cX7_walks 491 = .ok (.istore 9, 2) := by decide +kernel
theorem dX7_walks_493 : decode cX7_walks 493 = .ok (.iinc 9 1, 3) := by decide +kernel
theorem dX7_walks_496 : decode cX7_walks 496 = .ok (.goto (-493), 3) := by decide +kernel
theorem dX7_walks_499 : decode cX7_walks 499 = .ok (.iconst 1, 1) := by decide +kernel
theorem dX7_walks_500 : decode cX7_walks 500 = .ok (.ireturn, 1) := by decide +kernel
theorem dX7_makes_0 : decode cX7_makes 0 = .ok (.aload_n 0, 1) := by decide +kernel
theorem dX7_makes_1 : decode cX7_makes 1 = .ok (.getfield 45, 3) := by decide +kernel
theorem dX7_makes_4 : decode cX7_makes 4 = .ok (.aload_n 0, 1) := by decide +kernel
theorem dX7_makes_5 : decode cX7_makes 5 = .ok (.getfield 124, 3) := by decide +kernel
theorem dX7_makes_8 : decode cX7_makes 8 = .ok (.iload_n 1, 1) := by decide +kernel
theorem dX7_makes_9 : decode cX7_makes 9 = .ok (.iastore, 1) := by decide +kernel
theorem dX7_makes_10 : decode cX7_makes 10 = .ok (.aload_n 0, 1) := by decide +kernel
theorem dX7_makes_11 : decode cX7_makes 11 = .ok (.getfield 48, 3) := by decide +kernel
theorem dX7_makes_14 : decode cX7_makes 14 = .ok (.aload_n 0, 1) := by decide +kernel
theorem dX7_makes_15 : decode cX7_makes 15 = .ok (.getfield 124, 3) := by decide +kernel
theorem dX7_makes_18 : decode cX7_makes 18 = .ok (.aload_n 0, 1) := by decide +kernel
theorem dX7_makes_19 : decode cX7_makes 19 = .ok (.getfield 13, 3) := by decide +kernel
theorem dX7_makes_22 : decode cX7_makes 22 = .ok (.iload_n 1, 1) := by decide +kernel
theorem dX7_makes_23 : decode cX7_makes 23 = .ok (.iaload, 1) := by decide +kernel
theorem dX7_makes_24 : decode cX7_makes 24 = .ok (.iastore, 1) := by decide +kernel
theorem dX7_makes_25 : decode cX7_makes 25 = .ok (.aload_n 0, 1) := by decide +kernel
theorem dX7_makes_26 : decode cX7_makes 26 = .ok (.getfield 51, 3) := by decide +kernel
theorem dX7_makes_29 : decode cX7_makes 29 = .ok (.aload_n 0, 1) := by decide +kernel
theorem dX7_makes_30 : decode cX7_makes 30 = .ok (.getfield 124, 3) := by decide +kernel
theorem dX7_makes_33 : decode cX7_makes 33 = .ok (.iload_n 2, 1) := by decide +kernel
theorem dX7_makes_34 : decode cX7_makes 34 = .ok (.iastore, 1) := by decide +kernel
theorem dX7_makes_35 : decode cX7_makes 35 = .ok (.aload_n 0, 1) := by decide +kernel
theorem dX7_makes_36 : decode cX7_makes 36 = .ok (.getfield 54, 3) := by decide +kernel
theorem dX7_makes_39 : decode cX7_makes 39 = .ok (.aload_n 0, 1) := by decide +kernel
theorem dX7_makes_40 : decode cX7_makes 40 = .ok (.getfield 124, 3) := by decide +kernel
theorem dX7_makes_43 : decode cX7_makes 43 = .ok (.iload_n 3, 1) := by decide +kernel
theorem dX7_makes_44 : decode cX7_makes 44 = .ok (.iastore, 1) := by decide +kernel
theorem dX7_makes_45 : decode cX7_makes 45 = .ok (.aload_n 0, 1) := by decide +kernel
theorem dX7_makes_46 : decode cX7_makes 46 = .ok (.getfield 57, 3) := by decide +kernel
theorem dX7_makes_49 : decode cX7_makes 49 = .ok (.aload_n 0, 1) := by decide +kernel
theorem dX7_makes_50 : decode cX7_makes 50 = .ok (.getfield 124, 3) := by decide +kernel
theorem dX7_makes_53 : decode cX7_makes 53 = .ok (.iload 4, 2) := by decide +kernel
theorem dX7_makes_55 : decode cX7_makes 55 = .ok (.iastore, 1) := by decide +kernel
theorem dX7_makes_56 : decode cX7_makes 56 = .ok (.aload_n 0, 1) := by decide +kernel
theorem dX7_makes_57 : decode cX7_makes 57 = .ok (.getfield 66, 3) := by decide +kernel
theorem dX7_makes_60 : decode cX7_makes 60 = .ok (.aload_n 0, 1) := by decide +kernel
theorem dX7_makes_61 : decode cX7_makes 61 = .ok (.getfield 124, 3) := by decide +kernel
theorem dX7_makes_64 : decode cX7_makes 64 = .ok (.iconst 0, 1) := by decide +kernel
theorem dX7_makes_65 : decode cX7_makes 65 = .ok (.bastore, 1) := by decide +kernel
theorem dX7_makes_66 : decode cX7_makes 66 = .ok (.aload_n 0, 1) := by decide +kernel
theorem dX7_makes_67 : decode cX7_makes 67 = .ok (.dup, 1) := by decide +kernel
theorem dX7_makes_68 : decode cX7_makes 68 = .ok (.getfield 124, 3) := by decide +kernel
theorem dX7_makes_71 : decode cX7_makes 71 = .ok (.iconst 1, 1) := by decide +kernel
theorem dX7_makes_72 : decode cX7_makes 72 = .ok (.iadd, 1) := by decide +kernel
theorem dX7_makes_73 : decode cX7_makes 73 = .ok (.putfield 124, 3) := by decide +kernel
theorem dX7_makes_76 : decode cX7_makes 76 = .ok (.return_, 1) := by decide +kernel
theorem dX7_finds_0 : decode cX7_finds 0 = .ok (.aload_n 0, 1) := by decide +kernel
theorem dX7_finds_1 : decode cX7_finds 1 = .ok (.getfield 54, 3) := by decide +kernel
theorem dX7_finds_4 : decode cX7_finds 4 = .ok (.iload_n 1, 1) := by decide +kernel
theorem dX7_finds_5 : decode cX7_finds 5 = .ok (.iaload, 1) := by decide +kernel
theorem dX7_finds_6 : decode cX7_finds 6 = .ok (.istore_n 2, 1) := by decide +kernel
theorem dX7_finds_7 : decode cX7_finds 7 = .ok (.iload_n 2, 1) := by decide +kernel
theorem dX7_finds_8 : decode cX7_finds 8 = .ok (.iconst (-1), 1) := by decide +kernel
theorem dX7_finds_9 : decode cX7_finds 9 = .ok (.if_icmp .eq 65, 3) := by decide +kernel
theorem dX7_finds_12 : decode cX7_finds 12 = .ok (.iconst 0, 1) := by decide +kernel
theorem dX7_finds_13 : decode cX7_finds 13 = .ok (.istore_n 3, 1) := by decide +kernel
theorem dX7_finds_14 : decode cX7_finds 14 = .ok (.iload_n 3, 1) := by decide +kernel
theorem dX7_finds_15 : decode cX7_finds 15 = .ok (.aload_n 0, 1) := by decide +kernel
theorem dX7_finds_16 : decode cX7_finds 16 = .ok (.getfield 124, 3) := by decide +kernel
theorem dX7_finds_19 : decode cX7_finds 19 = .ok (.if_icmp .ge 45, 3) := by decide +kernel
theorem dX7_finds_22 : decode cX7_finds 22 = .ok (.aload_n 0, 1) := by decide +kernel
theorem dX7_finds_23 : decode cX7_finds 23 = .ok (.getfield 48, 3) := by decide +kernel
theorem dX7_finds_26 : decode cX7_finds 26 = .ok (.iload_n 3, 1) := by decide +kernel
theorem dX7_finds_27 : decode cX7_finds 27 = .ok (.iaload, 1) := by decide +kernel
theorem dX7_finds_28 : decode cX7_finds 28 = .ok (.ifCond .ne 30, 3) := by decide +kernel
theorem dX7_finds_31 : decode cX7_finds 31 = .ok (.aload_n 0, 1) := by decide +kernel
theorem dX7_finds_32 : decode cX7_finds 32 = .ok (.getfield 51, 3) := by decide +kernel
theorem dX7_finds_35 : decode cX7_finds 35 = .ok (.iload_n 3, 1) := by decide +kernel
theorem dX7_finds_36 : decode cX7_finds 36 = .ok (.iaload, 1) := by decide +kernel
theorem dX7_finds_37 : decode cX7_finds 37 = .ok (.aload_n 0, 1) := by decide +kernel
theorem dX7_finds_38 : decode cX7_finds 38 = .ok (.getfield 51, 3) := by decide +kernel
theorem dX7_finds_41 : decode cX7_finds 41 = .ok (.iload_n 1, 1) := by decide +kernel
theorem dX7_finds_42 : decode cX7_finds 42 = .ok (.iaload, 1) := by decide +kernel
theorem dX7_finds_43 : decode cX7_finds 43 = .ok (.if_icmp .ne 15, 3) := by decide +kernel
theorem dX7_finds_46 : decode cX7_finds 46 = .ok (.aload_n 0, 1) := by decide +kernel
theorem dX7_finds_47 : decode cX7_finds 47 = .ok (.getfield 54, 3) := by decide +kernel
theorem dX7_finds_50 : decode cX7_finds 50 = .ok (.iload_n 3, 1) := by decide +kernel
theorem dX7_finds_51 : decode cX7_finds 51 = .ok (.iaload, 1) := by decide +kernel
theorem dX7_finds_52 : decode cX7_finds 52 = .ok (.iload_n 2, 1) := by decide +kernel
theorem dX7_finds_53 : decode cX7_finds 53 = .ok (.if_icmp .ne 5, 3) := by decide +kernel
theorem dX7_finds_56 : decode cX7_finds 56 = .ok (.iload_n 3, 1) := by decide +kernel
theorem dX7_finds_57 : decode cX7_finds 57 = .ok (.ireturn, 1) := by decide +kernel
theorem dX7_finds_58 : decode cX7_finds 58 = .ok (.iinc 3 1, 3) := by decide +kernel
theorem dX7_finds_61 : decode cX7_finds 61 = .ok (.goto (-47), 3) := by decide +kernel
theorem dX7_finds_64 : decode cX7_finds 64 = .ok (.aload_n 0, 1) := by decide +kernel
theorem dX7_finds_65 : decode cX7_finds 65 = .ok (.getfield 42, 3) := by decide +kernel
theorem dX7_finds_68 : decode cX7_finds 68 = .ok (.iload_n 2, 1) := by decide +kernel
theorem dX7_finds_69 : decode cX7_finds 69 = .ok (.iaload, 1) := by decide +kernel
theorem dX7_finds_70 : decode cX7_finds 70 = .ok (.istore_n 2, 1) := by decide +kernel
theorem dX7_finds_71 : decode cX7_finds 71 = .ok (.goto (-64), 3) := by decide +kernel
theorem dX7_finds_74 : decode cX7_finds 74 = .ok (.iconst (-1), 1) := by decide +kernel
theorem dX7_finds_75 : decode cX7_finds 75 = .ok (.ireturn, 1) := by decide +kernel
theorem dX7_isNamed_0 : decode cX7_isNamed 0 = .ok (.aload_n 0, 1) := by decide +kernel
theorem dX7_isNamed_1 : decode cX7_isNamed 1 = .ok (.getfield 48, 3) := by decide +kernel
theorem dX7_isNamed_4 : decode cX7_isNamed 4 = .ok (.iload_n 1, 1) := by decide +kernel
theorem dX7_isNamed_5 : decode cX7_isNamed 5 = .ok (.iaload, 1) := by decide +kernel
theorem dX7_isNamed_6 : decode cX7_isNamed 6 = .ok (.iconst 3, 1) := by decide +kernel
theorem dX7_isNamed_7 : decode cX7_isNamed 7 = .ok (.if_icmp .eq 13, 3) := by decide +kernel
theorem dX7_isNamed_10 : decode cX7_isNamed 10 = .ok (.aload_n 0, 1) := by decide +kernel
theorem dX7_isNamed_11 : decode cX7_isNamed 11 = .ok (.getfield 48, 3) := by decide +kernel
theorem dX7_isNamed_14 : decode cX7_isNamed 14 = .ok (.iload_n 1, 1) := by decide +kernel
theorem dX7_isNamed_15 : decode cX7_isNamed 15 = .ok (.iaload, 1) := by decide +kernel
theorem dX7_isNamed_16 : decode cX7_isNamed 16 = .ok (.iconst 4, 1) := by decide +kernel
theorem dX7_isNamed_17 : decode cX7_isNamed 17 = .ok (.if_icmp .ne 7, 3) := by decide +kernel
theorem dX7_isNamed_20 : decode cX7_isNamed 20 = .ok (.iconst 1, 1) := by decide +kernel
theorem dX7_isNamed_21 : decode cX7_isNamed 21 = .ok (.goto 4, 3) := by decide +kernel
theorem dX7_isNamed_24 : decode cX7_isNamed 24 = .ok (.iconst 0, 1) := by decide +kernel
theorem dX7_isNamed_25 : decode cX7_isNamed 25 = .ok (.ireturn, 1) := by decide +kernel
theorem dX7_areFound_0 : decode cX7_areFound 0 = .ok (.iconst 0, 1) := by decide +kernel
theorem dX7_areFound_1 : decode cX7_areFound 1 = .ok (.istore_n 1, 1) := by decide +kernel
theorem dX7_areFound_2 : decode cX7_areFound 2 = .ok (.iload_n 1, 1) := by decide +kernel
theorem dX7_areFound_3 : decode cX7_areFound 3 = .ok (.aload_n 0, 1) := by decide +kernel
theorem dX7_areFound_4 : decode cX7_areFound 4 = .ok (.getfield 124, 3) := by decide +kernel
theorem dX7_areFound_7 : decode cX7_areFound 7 = .ok (.if_icmp .ge 54, 3) := by decide +kernel
theorem dX7_areFound_10 : decode cX7_areFound 10 = .ok (.aload_n 0, 1) := by decide +kernel
theorem dX7_areFound_11 : decode cX7_areFound 11 = .ok (.iload_n 1, 1) := by decide +kernel
theorem dX7_areFound_12 : decode cX7_areFound 12 = .ok (.invokevirtual 151, 3) := by decide +kernel
theorem dX7_areFound_15 : decode cX7_areFound 15 = .ok (.ifCond .ne 6, 3) := by decide +kernel
theorem dX7_areFound_18 : decode cX7_areFound 18 = .ok (.goto 37, 3) := by decide +kernel
theorem dX7_areFound_21 : decode cX7_areFound 21 = .ok (.aload_n 0, 1) := by decide +kernel
theorem dX7_areFound_22 : decode cX7_areFound 22 = .ok (.getfield 63, 3) := by decide +kernel
theorem dX7_areFound_25 : decode cX7_areFound 25 = .ok (.iload_n 1, 1) := by decide +kernel
theorem dX7_areFound_26 : decode cX7_areFound 26 = .ok (.aload_n 0, 1) := by decide +kernel
theorem dX7_areFound_27 : decode cX7_areFound 27 = .ok (.iload_n 1, 1) := by decide +kernel
theorem dX7_areFound_28 : decode cX7_areFound 28 = .ok (.invokevirtual 155, 3) := by decide +kernel
theorem dX7_areFound_31 : decode cX7_areFound 31 = .ok (.iastore, 1) := by decide +kernel
theorem dX7_areFound_32 : decode cX7_areFound 32 = .ok (.aload_n 0, 1) := by decide +kernel
theorem dX7_areFound_33 : decode cX7_areFound 33 = .ok (.getfield 63, 3) := by decide +kernel
theorem dX7_areFound_36 : decode cX7_areFound 36 = .ok (.iload_n 1, 1) := by decide +kernel
theorem dX7_areFound_37 : decode cX7_areFound 37 = .ok (.iaload, 1) := by decide +kernel
theorem dX7_areFound_38 : decode cX7_areFound 38 = .ok (.iconst (-1), 1) := by decide +kernel
theorem dX7_areFound_39 : decode cX7_areFound 39 = .ok (.if_icmp .ne 16, 3) := by decide +kernel
theorem dX7_areFound_42 : decode cX7_areFound 42 = .ok (.aload_n 0, 1) := by decide +kernel
theorem dX7_areFound_43 : decode cX7_areFound 43 = .ok (.bipush 117, 2) := by decide +kernel
theorem dX7_areFound_45 : decode cX7_areFound 45 = .ok (.aload_n 0, 1) := by decide +kernel
theorem dX7_areFound_46 : decode cX7_areFound 46 = .ok (.getfield 45, 3) := by decide +kernel
theorem dX7_areFound_49 : decode cX7_areFound 49 = .ok (.iload_n 1, 1) := by decide +kernel
theorem dX7_areFound_50 : decode cX7_areFound 50 = .ok (.iaload, 1) := by decide +kernel
theorem dX7_areFound_51 : decode cX7_areFound 51 = .ok (.invokevirtual 130, 3) := by decide +kernel
theorem dX7_areFound_54 : decode cX7_areFound 54 = .ok (.ireturn, 1) := by decide +kernel
theorem dX7_areFound_55 : decode cX7_areFound 55 = .ok (.iinc 1 1, 3) := by decide +kernel
theorem dX7_areFound_58 : decode cX7_areFound 58 = .ok (.goto (-56), 3) := by decide +kernel
theorem dX7_areFound_61 : decode cX7_areFound 61 = .ok (.iconst 1, 1) := by decide +kernel
theorem dX7_areFound_62 : decode cX7_areFound 62 = .ok (.ireturn, 1) := by decide +kernel
theorem dX7_sizeOf_0 : decode cX7_sizeOf 0 = .ok (.aload_n 0, 1) := by decide +kernel
theorem dX7_sizeOf_1 : decode cX7_sizeOf 1 = .ok (.getfield 48, 3) := by decide +kernel
theorem dX7_sizeOf_4 : decode cX7_sizeOf 4 = .ok (.iload_n 1, 1) := by decide +kernel
theorem dX7_sizeOf_5 : decode cX7_sizeOf 5 = .ok (.iaload, 1) := by decide +kernel
theorem dX7_sizeOf_6 : decode cX7_sizeOf 6 = .ok (.istore_n 3, 1) := by decide +kernel
theorem dX7_sizeOf_7 : decode cX7_sizeOf 7 = .ok (.iload_n 3, 1) := by decide +kernel
theorem dX7_sizeOf_8 : decode cX7_sizeOf 8 = .ok (.iconst 5, 1) := by decide +kernel
theorem dX7_sizeOf_9 : decode cX7_sizeOf 9 = .ok (.if_icmp .ne 14, 3) := by decide +kernel
theorem dX7_sizeOf_12 : decode cX7_sizeOf 12 = .ok (.iload_n 2, 1) := by decide +kernel
theorem dX7_sizeOf_13 : decode cX7_sizeOf 13 = .ok (.aload_n 0, 1) := by decide +kernel
theorem dX7_sizeOf_14 : decode cX7_sizeOf 14 = .ok (.getfield 51, 3) := by decide +kernel
theorem dX7_sizeOf_17 : decode cX7_sizeOf 17 = .ok (.iload_n 1, 1) := by decide +kernel
theorem dX7_sizeOf_18 : decode cX7_sizeOf 18 = .ok (.iaload, 1) := by decide +kernel
theorem dX7_sizeOf_19 : decode cX7_sizeOf 19 = .ok (.irem, 1) := by decide +kernel
theorem dX7_sizeOf_20 : decode cX7_sizeOf 20 = .ok (.goto 4, 3) := by decide +kernel
theorem dX7_sizeOf_23 : decode cX7_sizeOf 23 = .ok (.iconst 0, 1) := by decide +kernel
theorem dX7_sizeOf_24 : decode cX7_sizeOf 24 = .ok (.istore 4, 2) := by decide +kernel
theorem dX7_sizeOf_26 : decode cX7_sizeOf 26 = .ok (.iload_n 3, 1) := by decide +kernel
theorem dX7_sizeOf_27 : decode cX7_sizeOf 27 = .ok (.ifCond .ne 7, 3) := by decide +kernel
theorem dX7_sizeOf_30 : decode cX7_sizeOf 30 = .ok (.iconst 0, 1) := by decide +kernel
theorem dX7_sizeOf_31 : decode cX7_sizeOf 31 = .ok (.goto 48, 3) := by decide +kernel
theorem dX7_sizeOf_34 : decode cX7_sizeOf 34 = .ok (.iload_n 3, 1) := by decide +kernel
theorem dX7_sizeOf_35 : decode cX7_sizeOf 35 = .ok (.iconst 3, 1) := by decide +kernel
theorem dX7_sizeOf_36 : decode cX7_sizeOf 36 = .ok (.if_icmp .ne 16, 3) := by decide +kernel
theorem dX7_sizeOf_39 : decode cX7_sizeOf 39 = .ok (.aload_n 0, 1) := by decide +kernel
theorem dX7_sizeOf_40 : decode cX7_sizeOf 40 = .ok (.getfield 66, 3) := by decide +kernel
theorem dX7_sizeOf_43 : decode cX7_sizeOf 43 = .ok (.iload_n 1, 1) := by decide +kernel
theorem dX7_sizeOf_44 : decode cX7_sizeOf 44 = .ok (.baload, 1) := by decide +kernel
theorem dX7_sizeOf_45 : decode cX7_sizeOf 45 = .ok (.ifCond .eq 7, 3) := by decide +kernel
theorem dX7_sizeOf_48 : decode cX7_sizeOf 48 = .ok (.iconst 2, 1) := by decide +kernel
theorem dX7_sizeOf_49 : decode cX7_sizeOf 49 = .ok (.goto 30, 3) := by decide +kernel
theorem dX7_sizeOf_52 : decode cX7_sizeOf 52 = .ok (.iload_n 3, 1) := by decide +kernel
theorem dX7_sizeOf_53 : decode cX7_sizeOf 53 = .ok (.iconst 5, 1) := by decide +kernel
theorem dX7_sizeOf_54 : decode cX7_sizeOf 54 = .ok (.if_icmp .eq 7, 3) := by decide +kernel
theorem dX7_sizeOf_57 : decode cX7_sizeOf 57 = .ok (.iconst 1, 1) := by decide +kernel
theorem dX7_sizeOf_58 : decode cX7_sizeOf 58 = .ok (.goto 21, 3) := by decide +kernel
theorem dX7_sizeOf_61 : decode cX7_sizeOf 61 = .ok (.iload 4, 2) := by decide +kernel
theorem dX7_sizeOf_63 : decode cX7_sizeOf 63 = .ok (.ifCond .ne 7, 3) := by decide +kernel
theorem dX7_sizeOf_66 : decode cX7_sizeOf 66 = .ok (.iconst 0, 1) := by decide +kernel
theorem dX7_sizeOf_67 : decode cX7_sizeOf 67 = .ok (.goto 12, 3) := by decide +kernel
theorem dX7_sizeOf_70 : decode cX7_sizeOf 70 = .ok (.aload_n 0, 1) := by decide +kernel
theorem dX7_sizeOf_71 : decode cX7_sizeOf 71 = .ok (.getfield 51, 3) := by decide +kernel
theorem dX7_sizeOf_74 : decode cX7_sizeOf 74 = .ok (.iload_n 1, 1) := by decide +kernel
theorem dX7_sizeOf_75 : decode cX7_sizeOf 75 = .ok (.iaload, 1) := by decide +kernel
theorem dX7_sizeOf_76 : decode cX7_sizeOf 76 = .ok (.iload 4, 2) := by decide +kernel
theorem dX7_sizeOf_78 : decode cX7_sizeOf 78 = .ok (.isub, 1) := by decide +kernel
theorem dX7_sizeOf_79 : decode cX7_sizeOf 79 = .ok (.ireturn, 1) := by decide +kernel
theorem dX7_places_0 : decode cX7_places 0 = .ok (.iconst 0, 1) := by decide +kernel
theorem dX7_places_1 : decode cX7_places 1 = .ok (.istore_n 1, 1) := by decide +kernel
theorem dX7_places_2 : decode cX7_places 2 = .ok (.iconst 0, 1) := by decide +kernel
theorem dX7_places_3 : decode cX7_places 3 = .ok (.istore_n 2, 1) := by decide +kernel
theorem dX7_places_4 : decode cX7_places 4 = .ok (.iload_n 2, 1) := by decide +kernel
theorem dX7_places_5 : decode cX7_places 5 = .ok (.aload_n 0, 1) := by decide +kernel
theorem dX7_places_6 : decode cX7_places 6 = .ok (.getfield 124, 3) := by decide +kernel
theorem dX7_places_9 : decode cX7_places 9 = .ok (.if_icmp .ge 25, 3) := by decide +kernel
theorem dX7_places_12 : decode cX7_places 12 = .ok (.aload_n 0, 1) := by decide +kernel
theorem dX7_places_13 : decode cX7_places 13 = .ok (.getfield 60, 3) := by decide +kernel
theorem dX7_places_16 : decode cX7_places 16 = .ok (.iload_n 2, 1) := by decide +kernel
theorem dX7_places_17 : decode cX7_places 17 = .ok (.iload_n 1, 1) := by decide +kernel
theorem dX7_places_18 : decode cX7_places 18 = .ok (.iastore, 1) := by decide +kernel
theorem dX7_places_19 : decode cX7_places 19 = .ok (.iload_n 1, 1) := by decide +kernel
theorem dX7_places_20 : decode cX7_places 20 = .ok (.aload_n 0, 1) := by decide +kernel
theorem dX7_places_21 : decode cX7_places 21 = .ok (.iload_n 2, 1) := by decide +kernel
theorem dX7_places_22 : decode cX7_places 22 = .ok (.iload_n 1, 1) := by decide +kernel
theorem dX7_places_23 : decode cX7_places 23 = .ok (.invokevirtual 158, 3) := by decide +kernel
theorem dX7_places_26 : decode cX7_places 26 = .ok (.iadd, 1) := by decide +kernel
theorem dX7_places_27 : decode cX7_places 27 = .ok (.istore_n 1, 1) := by decide +kernel
theorem dX7_places_28 : decode cX7_places 28 = .ok (.iinc 2 1, 3) := by decide +kernel
theorem dX7_places_31 : decode cX7_places 31 = .ok (.goto (-27), 3) := by decide +kernel
theorem dX7_places_34 : decode cX7_places 34 = .ok (.aload_n 0, 1) := by decide +kernel
theorem dX7_places_35 : decode cX7_places 35 = .ok (.iload_n 1, 1) := by decide +kernel
theorem dX7_places_36 : decode cX7_places 36 = .ok (.putfield 162, 3) := by decide +kernel
theorem dX7_places_39 : decode cX7_places 39 = .ok (.return_, 1) := by decide +kernel
theorem dX7_distance_0 : decode cX7_distance 0 = .ok (.aload_n 0, 1) := by decide +kernel
theorem dX7_distance_1 : decode cX7_distance 1 = .ok (.getfield 60, 3) := by decide +kernel
theorem dX7_distance_4 : decode cX7_distance 4 = .ok (.aload_n 0, 1) := by decide +kernel
theorem dX7_distance_5 : decode cX7_distance 5 = .ok (.getfield 63, 3) := by decide +kernel
theorem dX7_distance_8 : decode cX7_distance 8 = .ok (.iload_n 1, 1) := by decide +kernel
theorem dX7_distance_9 : decode cX7_distance 9 = .ok (.iaload, 1) := by decide +kernel
theorem dX7_distance_10 : decode cX7_distance 10 = .ok (.iaload, 1) := by decide +kernel
theorem dX7_distance_11 : decode cX7_distance 11 = .ok (.aload_n 0, 1) := by decide +kernel
theorem dX7_distance_12 : decode cX7_distance 12 = .ok (.getfield 60, 3) := by decide +kernel
theorem dX7_distance_15 : decode cX7_distance 15 = .ok (.iload_n 1, 1) := by decide +kernel
theorem dX7_distance_16 : decode cX7_distance 16 = .ok (.iaload, 1) := by decide +kernel
theorem dX7_distance_17 : decode cX7_distance 17 = .ok (.isub, 1) := by decide +kernel
theorem dX7_distance_18 : decode cX7_distance 18 = .ok (.iconst 1, 1) := by decide +kernel
theorem dX7_distance_19 : decode cX7_distance 19 = .ok (.isub, 1) := by decide +kernel
theorem dX7_distance_20 : decode cX7_distance 20 = .ok (.ireturn, 1) := by decide +kernel
theorem dX7_lengthens_0 : decode cX7_lengthens 0 = .ok (.iconst 0, 1) := by decide +kernel
theorem dX7_lengthens_1 : decode cX7_lengthens 1 = .ok (.istore_n 1, 1) := by decide +kernel
theorem dX7_lengthens_2 : decode cX7_lengthens 2 = .ok (.aload_n 0, 1) := by decide +kernel
theorem dX7_lengthens_3 : decode cX7_lengthens 3 = .ok (.invokevirtual 165, 3) := by decide +kernel
theorem dX7_lengthens_6 : decode cX7_lengthens 6 = .ok (.iconst 0, 1) := by decide +kernel
theorem dX7_lengthens_7 : decode cX7_lengthens 7 = .ok (.istore_n 2, 1) := by decide +kernel
theorem dX7_lengthens_8 : decode cX7_lengthens 8 = .ok (.iload_n 2, 1) := by decide +kernel
theorem dX7_lengthens_9 : decode cX7_lengthens 9 = .ok (.aload_n 0, 1) := by decide +kernel
theorem dX7_lengthens_10 : decode cX7_lengthens 10 = .ok (.getfield 124, 3) := by decide +kernel
theorem dX7_lengthens_13 : decode cX7_lengthens 13 = .ok (.if_icmp .ge 55, 3) := by decide +kernel
theorem dX7_lengthens_16 : decode cX7_lengthens 16 = .ok (.aload_n 0, 1) := by decide +kernel
theorem dX7_lengthens_17 : decode cX7_lengthens 17 = .ok (.getfield 48, 3) := by decide +kernel
theorem dX7_lengthens_20 : decode cX7_lengthens 20 = .ok (.iload_n 2, 1) := by decide +kernel
theorem dX7_lengthens_21 : decode cX7_lengthens 21 = .ok (.iaload, 1) := by decide +kernel
theorem dX7_lengthens_22 : decode cX7_lengthens 22 = .ok (.iconst 3, 1) := by decide +kernel
theorem dX7_lengthens_23 : decode cX7_lengthens 23 = .ok (.if_icmp .ne 39, 3) := by decide +kernel
theorem dX7_lengthens_26 : decode cX7_lengthens 26 = .ok (.aload_n 0, 1) := by decide +kernel
theorem dX7_lengthens_27 : decode cX7_lengthens 27 = .ok (.getfield 66, 3) := by decide +kernel
theorem dX7_lengthens_30 : decode cX7_lengthens 30 = .ok (.iload_n 2, 1) := by decide +kernel
theorem dX7_lengthens_31 : decode cX7_lengthens 31 = .ok (.baload, 1) := by decide +kernel
theorem dX7_lengthens_32 : decode cX7_lengthens 32 = .ok (.ifCond .ne 30, 3) := by decide +kernel
theorem dX7_lengthens_35 : decode cX7_lengthens 35 = .ok (.aload_n 0, 1) := by decide +kernel
theorem dX7_lengthens_36 : decode cX7_lengthens 36 = .ok (.iload_n 2, 1) := by decide +kernel
theorem dX7_lengthens_37 : decode cX7_lengthens 37 = .ok (.invokevirtual 168, 3) := by decide +kernel
theorem dX7_lengthens_40 : decode cX7_lengthens 40 = .ok (.bipush (-8), 2) := by decide +kernel
theorem dX7_lengthens_42 : decode cX7_lengthens 42 = .ok (.bipush 7, 2) := by decide +kernel
theorem dX7_lengthens_44 : decode cX7_lengthens 44 = .ok (.invokestatic 85, 3) := by decide +kernel
theorem dX7_lengthens_47 : decode cX7_lengthens 47 = .ok (.ifCond .eq 6, 3) := by decide +kernel
theorem dX7_lengthens_50 : decode cX7_lengthens 50 = .ok (.goto 12, 3) := by decide +kernel
theorem dX7_lengthens_53 : decode cX7_lengthens 53 = .ok (.aload_n 0, 1) := by decide +kernel
theorem dX7_lengthens_54 : decode cX7_lengthens 54 = .ok (.getfield 66, 3) := by decide +kernel
theorem dX7_lengthens_57 : decode cX7_lengthens 57 = .ok (.iload_n 2, 1) := by decide +kernel
theorem dX7_lengthens_58 : decode cX7_lengthens 58 = .ok (.iconst 1, 1) := by decide +kernel
theorem dX7_lengthens_59 : decode cX7_lengthens 59 = .ok (.bastore, 1) := by decide +kernel
theorem dX7_lengthens_60 : decode cX7_lengthens 60 = .ok (.iconst 1, 1) := by decide +kernel
theorem dX7_lengthens_61 : decode cX7_lengthens 61 = .ok (.istore_n 1, 1) := by decide +kernel
theorem dX7_lengthens_62 : decode cX7_lengthens 62 = .ok (.iinc 2 1, 3) := by decide +kernel
theorem dX7_lengthens_65 : decode cX7_lengthens 65 = .ok (.goto (-57), 3) := by decide +kernel
theorem dX7_lengthens_68 : decode cX7_lengthens 68 = .ok (.iload_n 1, 1) := by decide +kernel
theorem dX7_lengthens_69 : decode cX7_lengthens 69 = .ok (.ireturn, 1) := by decide +kernel
theorem dX7_puts_0 : decode cX7_puts 0 = .ok (.aload_n 0, 1) := by decide +kernel
theorem dX7_puts_1 : decode cX7_puts 1 = .ok (.getfield 70, 3) := by decide +kernel
theorem dX7_puts_4 : decode cX7_puts 4 = .ok (.iload_n 1, 1) := by decide +kernel
theorem dX7_puts_5 : decode cX7_puts 5 = .ok (.iload_n 2, 1) := by decide +kernel
theorem dX7_puts_6 : decode cX7_puts 6 = .ok (.iastore, 1) := by decide +kernel
theorem dX7_puts_7 : decode cX7_puts 7 = .ok (.aload_n 0, 1) := by decide +kernel
theorem dX7_puts_8 : decode cX7_puts 8 = .ok (.getfield 73, 3) := by decide +kernel
theorem dX7_puts_11 : decode cX7_puts 11 = .ok (.iload_n 1, 1) := by decide +kernel
theorem dX7_puts_12 : decode cX7_puts 12 = .ok (.iload_n 3, 1) := by decide +kernel
theorem dX7_puts_13 : decode cX7_puts 13 = .ok (.bastore, 1) := by decide +kernel
theorem dX7_puts_14 : decode cX7_puts 14 = .ok (.return_, 1) := by decide +kernel
theorem dX7_writes_0 : decode cX7_writes 0 = .ok (.aload_n 0, 1) := by decide +kernel
theorem dX7_writes_1 : decode cX7_writes 1 = .ok (.getfield 60, 3) := by decide +kernel
theorem dX7_writes_4 : decode cX7_writes 4 = .ok (.iload_n 1, 1) := by decide +kernel
theorem dX7_writes_5 : decode cX7_writes 5 = .ok (.iaload, 1) := by decide +kernel
theorem dX7_writes_6 : decode cX7_writes 6 = .ok (.istore_n 2, 1) := by decide +kernel
theorem dX7_writes_7 : decode cX7_writes 7 = .ok (.aload_n 0, 1) := by decide +kernel
theorem dX7_writes_8 : decode cX7_writes 8 = .ok (.getfield 48, 3) := by decide +kernel
theorem dX7_writes_11 : decode cX7_writes 11 = .ok (.iload_n 1, 1) := by decide +kernel
theorem dX7_writes_12 : decode cX7_writes 12 = .ok (.iaload, 1) := by decide +kernel
theorem dX7_writes_13 : decode cX7_writes 13 = .ok (.istore_n 3, 1) := by decide +kernel
theorem dX7_writes_14 : decode cX7_writes 14 = .ok (.iload_n 3, 1) := by decide +kernel
theorem dX7_writes_15 : decode cX7_writes 15 = .ok (.iconst 1, 1) := by decide +kernel
theorem dX7_writes_16 : decode cX7_writes 16 = .ok (.if_icmp .ne 15, 3) := by decide +kernel
theorem dX7_writes_19 : decode cX7_writes 19 = .ok (.aload_n 0, 1) := by decide +kernel
theorem dX7_writes_20 : decode cX7_writes 20 = .ok (.iload_n 2, 1) := by decide +kernel
theorem dX7_writes_21 : decode cX7_writes 21 = .ok (.aload_n 0, 1) := by decide +kernel
theorem dX7_writes_22 : decode cX7_writes 22 = .ok (.getfield 51, 3) := by decide +kernel
theorem dX7_writes_25 : decode cX7_writes 25 = .ok (.iload_n 1, 1) := by decide +kernel
theorem dX7_writes_26 : decode cX7_writes 26 = .ok (.iaload, 1) := by decide +kernel
theorem dX7_writes_27 : decode cX7_writes 27 = .ok (.iconst 0, 1) := by decide +kernel
theorem dX7_writes_28 : decode cX7_writes 28 = .ok (.invokevirtual 171, 3) := by decide +kernel
theorem dX7_writes_31 : decode cX7_writes 31 = .ok (.iload_n 3, 1) := by decide +kernel
theorem dX7_writes_32 : decode cX7_writes 32 = .ok (.iconst 2, 1) := by decide +kernel
theorem dX7_writes_33 : decode cX7_writes 33 = .ok (.if_icmp .ne 30, 3) := by decide +kernel
theorem dX7_writes_36 : decode cX7_writes 36 = .ok (.aload_n 0, 1) := by decide +kernel
theorem dX7_writes_37 : decode cX7_writes 37 = .ok (.iload_n 2, 1) := by decide +kernel
theorem dX7_writes_38 : decode cX7_writes 38 = .ok (.bipush 100, 2) := by decide +kernel
theorem dX7_writes_40 : decode cX7_writes 40 = .ok (.aload_n 0, 1) := by decide +kernel
theorem dX7_writes_41 : decode cX7_writes 41 = .ok (.getfield 20, 3) := by decide +kernel
theorem dX7_writes_44 : decode cX7_writes 44 = .ok (.aload_n 0, 1) := by decide +kernel
theorem dX7_writes_45 : decode cX7_writes 45 = .ok (.getfield 45, 3) := by decide +kernel
theorem dX7_writes_48 : decode cX7_writes 48 = .ok (.iload_n 1, 1) := by decide +kernel
theorem dX7_writes_49 : decode cX7_writes 49 = .ok (.iaload, 1) := by decide +kernel
theorem dX7_writes_50 : decode cX7_writes 50 = .ok (.iaload, 1) := by decide +kernel
theorem dX7_writes_51 : decode cX7_writes 51 = .ok (.imul, 1) := by decide +kernel
theorem dX7_writes_52 : decode cX7_writes 52 = .ok (.aload_n 0, 1) := by decide +kernel
theorem dX7_writes_53 : decode cX7_writes 53 = .ok (.getfield 51, 3) := by decide +kernel
theorem dX7_writes_56 : decode cX7_writes 56 = .ok (.iload_n 1, 1) := by decide +kernel
theorem dX7_writes_57 : decode cX7_writes 57 = .ok (.iaload, 1) := by decide +kernel
theorem dX7_writes_58 : decode cX7_writes 58 = .ok (.iadd, 1) := by decide +kernel
theorem dX7_writes_59 : decode cX7_writes 59 = .ok (.iconst 0, 1) := by decide +kernel
theorem dX7_writes_60 : decode cX7_writes 60 = .ok (.invokevirtual 171, 3) := by decide +kernel
theorem dX7_writes_63 : decode cX7_writes 63 = .ok (.iload_n 3, 1) := by decide +kernel
theorem dX7_writes_64 : decode cX7_writes 64 = .ok (.iconst 4, 1) := by decide +kernel
theorem dX7_writes_65 : decode cX7_writes 65 = .ok (.if_icmp .ne 20, 3) := by decide +kernel
theorem dX7_writes_68 : decode cX7_writes 68 = .ok (.aload_n 0, 1) := by decide +kernel
theorem dX7_writes_69 : decode cX7_writes 69 = .ok (.iload_n 2, 1) := by decide +kernel
theorem dX7_writes_70 : decode cX7_writes 70 = .ok (.aload_n 0, 1) := by decide +kernel
theorem dX7_writes_71 : decode cX7_writes 71 = .ok (.getfield 60, 3) := by decide +kernel
theorem dX7_writes_74 : decode cX7_writes 74 = .ok (.aload_n 0, 1) := by decide +kernel
theorem dX7_writes_75 : decode cX7_writes 75 = .ok (.getfield 63, 3) := by decide +kernel
theorem dX7_writes_78 : decode cX7_writes 78 = .ok (.iload_n 1, 1) := by decide +kernel
theorem dX7_writes_79 : decode cX7_writes 79 = .ok (.iaload, 1) := by decide +kernel
theorem dX7_writes_80 : decode cX7_writes 80 = .ok (.iaload, 1) := by decide +kernel
theorem dX7_writes_81 : decode cX7_writes 81 = .ok (.iconst 1, 1) := by decide +kernel
theorem dX7_writes_82 : decode cX7_writes 82 = .ok (.invokevirtual 171, 3) := by decide +kernel
theorem dX7_writes_85 : decode cX7_writes 85 = .ok (.iload_n 3, 1) := by decide +kernel
theorem dX7_writes_86 : decode cX7_writes 86 = .ok (.iconst 3, 1) := by decide +kernel
theorem dX7_writes_87 : decode cX7_writes 87 = .ok (.if_icmp .ne 27, 3) := by decide +kernel
theorem dX7_writes_90 : decode cX7_writes 90 = .ok (.aload_n 0, 1) := by decide +kernel
theorem dX7_writes_91 : decode cX7_writes 91 = .ok (.getfield 66, 3) := by decide +kernel
theorem dX7_writes_94 : decode cX7_writes 94 = .ok (.iload_n 1, 1) := by decide +kernel
theorem dX7_writes_95 : decode cX7_writes 95 = .ok (.baload, 1) := by decide +kernel
theorem dX7_writes_96 : decode cX7_writes 96 = .ok (.ifCond .ne 18, 3) := by decide +kernel
theorem dX7_writes_99 : decode cX7_writes 99 = .ok (.aload_n 0, 1) := by decide +kernel
theorem dX7_writes_100 : decode cX7_writes 100 = .ok (.iload_n 2, 1) := by decide +kernel
theorem dX7_writes_101 : decode cX7_writes 101 = .ok (.sipush 10008, 3) := by decide +kernel
theorem dX7_writes_104 : decode cX7_writes 104 = .ok (.aload_n 0, 1) := by decide +kernel
theorem dX7_writes_105 : decode cX7_writes 105 = .ok (.iload_n 1, 1) := by decide +kernel
theorem dX7_writes_106 : decode cX7_writes 106 = .ok (.invokevirtual 168, 3) := by decide +kernel
theorem dX7_writes_109 : decode cX7_writes 109 = .ok (.iadd, 1) := by decide +kernel
theorem dX7_writes_110 : decode cX7_writes 110 = .ok (.iconst 0, 1) := by decide +kernel
theorem dX7_writes_111 : decode cX7_writes 111 = .ok (.invokevirtual 171, 3) := by decide +kernel
theorem dX7_writes_114 : decode cX7_writes 114 = .ok (.iload_n 3, 1) := by decide +kernel
theorem dX7_writes_115 : decode cX7_writes 115 = .ok (.iconst 3, 1) := by decide +kernel
theorem dX7_writes_116 : decode cX7_writes 116 = .ok (.if_icmp .ne 40, 3) := by decide +kernel
theorem dX7_writes_119 : decode cX7_writes 119 = .ok (.aload_n 0, 1) := by decide +kernel
theorem dX7_writes_120 : decode cX7_writes 120 = .ok (.getfield 66, 3) := by decide +kernel
theorem dX7_writes_123 : decode cX7_writes 123 = .ok (.iload_n 1, 1) := by decide +kernel
theorem dX7_writes_124 : decode cX7_writes 124 = .ok (.baload, 1) := by decide +kernel
theorem dX7_writes_125 : decode cX7_writes 125 = .ok (.ifCond .eq 31, 3) := by decide +kernel
theorem dX7_writes_128 : decode cX7_writes 128 = .ok (.aload_n 0, 1) := by decide +kernel
theorem dX7_writes_129 : decode cX7_writes 129 = .ok (.iload_n 2, 1) := by decide +kernel
theorem dX7_writes_130 : decode cX7_writes 130 = .ok (.sipush 20000, 3) := by decide +kernel
theorem dX7_writes_133 : decode cX7_writes 133 = .ok (.iconst 0, 1) := by decide +kernel
theorem dX7_writes_134 : decode cX7_writes 134 = .ok (.invokevirtual 171, 3) := by decide +kernel
theorem dX7_writes_137 : decode cX7_writes 137 = .ok (.aload_n 0, 1) := by decide +kernel
theorem dX7_writes_138 : decode cX7_writes 138 = .ok (.iload_n 2, 1) := by decide +kernel
theorem dX7_writes_139 : decode cX7_writes 139 = .ok (.iconst 1, 1) := by decide +kernel
theorem dX7_writes_140 : decode cX7_writes 140 = .ok (.iadd, 1) := by decide +kernel
theorem dX7_writes_141 : decode cX7_writes 141 = .ok (.aload_n 0, 1) := by decide +kernel
theorem dX7_writes_142 : decode cX7_writes 142 = .ok (.getfield 60, 3) := by decide +kernel
theorem dX7_writes_145 : decode cX7_writes 145 = .ok (.aload_n 0, 1) := by decide +kernel
theorem dX7_writes_146 : decode cX7_writes 146 = .ok (.getfield 63, 3) := by decide +kernel
theorem dX7_writes_149 : decode cX7_writes 149 = .ok (.iload_n 1, 1) := by decide +kernel
theorem dX7_writes_150 : decode cX7_writes 150 = .ok (.iaload, 1) := by decide +kernel
theorem dX7_writes_151 : decode cX7_writes 151 = .ok (.iaload, 1) := by decide +kernel
theorem dX7_writes_152 : decode cX7_writes 152 = .ok (.iconst 1, 1) := by decide +kernel
theorem dX7_writes_153 : decode cX7_writes 153 = .ok (.invokevirtual 171, 3) := by decide +kernel
theorem dX7_writes_156 : decode cX7_writes 156 = .ok (.aload_n 0, 1) := by decide +kernel
theorem dX7_writes_157 : decode cX7_writes 157 = .ok (.iload_n 1, 1) := by decide +kernel
theorem dX7_writes_158 : decode cX7_writes 158 = .ok (.iload_n 2, 1) := by decide +kernel
theorem dX7_writes_159 : decode cX7_writes 159 = .ok (.invokevirtual 158, 3) := by decide +kernel
theorem dX7_writes_162 : decode cX7_writes 162 = .ok (.istore 4, 2) := by decide +kernel
theorem dX7_writes_164 : decode cX7_writes 164 = .ok (.iload_n 3, 1) := by decide +kernel
theorem dX7_writes_165 : decode cX7_writes 165 = .ok (.iconst 5, 1) := by decide +kernel
theorem dX7_writes_166 : decode cX7_writes 166 = .ok (.if_icmp .ne 26, 3) := by decide +kernel
theorem dX7_writes_169 : decode cX7_writes 169 = .ok (.iload 4, 2) := by decide +kernel
theorem dX7_writes_171 : decode cX7_writes 171 = .ok (.ifCond .le 21, 3) := by decide +kernel
theorem dX7_writes_174 : decode cX7_writes 174 = .ok (.aload_n 0, 1) := by decide +kernel
theorem dX7_writes_175 : decode cX7_writes 175 = .ok (.iload_n 2, 1) := by decide +kernel
theorem dX7_writes_176 : decode cX7_writes 176 = .ok (.iload 4, 2) := by decide +kernel
theorem dX7_writes_178 : decode cX7_writes 178 = .ok (.iadd, 1) := by decide +kernel
theorem dX7_writes_179 : decode cX7_writes 179 = .ok (.iconst 1, 1) := by decide +kernel
theorem dX7_writes_180 : decode cX7_writes 180 = .ok (.isub, 1) := by decide +kernel
theorem dX7_writes_181 : decode cX7_writes 181 = .ok (.iconst 0, 1) := by decide +kernel
theorem dX7_writes_182 : decode cX7_writes 182 = .ok (.iconst 0, 1) := by decide +kernel
theorem dX7_writes_183 : decode cX7_writes 183 = .ok (.invokevirtual 171, 3) := by decide +kernel
theorem dX7_writes_186 : decode cX7_writes 186 = .ok (.iinc 4 (-1), 3) := by decide +kernel
theorem dX7_writes_189 : decode cX7_writes 189 = .ok (.goto (-25), 3) := by decide +kernel
theorem dX7_writes_192 : decode cX7_writes 192 = .ok (.return_, 1) := by decide +kernel
theorem dX7_assemble_0 : decode cX7_assemble 0 = .ok (.aload_n 0, 1) := by decide +kernel
theorem dX7_assemble_1 : decode cX7_assemble 1 = .ok (.iconst 0, 1) := by decide +kernel
theorem dX7_assemble_2 : decode cX7_assemble 2 = .ok (.putfield 82, 3) := by decide +kernel
theorem dX7_assemble_5 : decode cX7_assemble 5 = .ok (.aload_n 0, 1) := by decide +kernel
theorem dX7_assemble_6 : decode cX7_assemble 6 = .ok (.iconst 1, 1) := by decide +kernel
theorem dX7_assemble_7 : decode cX7_assemble 7 = .ok (.putfield 175, 3) := by decide +kernel
theorem dX7_assemble_10 : decode cX7_assemble 10 = .ok (.aload_n 0, 1) := by decide +kernel
theorem dX7_assemble_11 : decode cX7_assemble 11 = .ok (.bipush 110, 2) := by decide +kernel
theorem dX7_assemble_13 : decode cX7_assemble 13 = .ok (.putfield 38, 3) := by decide +kernel
theorem dX7_assemble_16 : decode cX7_assemble 16 = .ok (.aload_n 0, 1) := by decide +kernel
theorem dX7_assemble_17 : decode cX7_assemble 17 = .ok (.iconst 0, 1) := by decide +kernel
theorem dX7_assemble_18 : decode cX7_assemble 18 = .ok (.putfield 124, 3) := by decide +kernel
theorem dX7_assemble_21 : decode cX7_assemble 21 = .ok (.aload_n 0, 1) := by decide +kernel
theorem dX7_assemble_22 : decode cX7_assemble 22 = .ok (.iconst 0, 1) := by decide +kernel
theorem dX7_assemble_23 : decode cX7_assemble 23 = .ok (.putfield 121, 3) := by decide +kernel
theorem dX7_assemble_26 : decode cX7_assemble 26 = .ok (.aload_n 0, 1) := by decide +kernel
theorem dX7_assemble_27 : decode cX7_assemble 27 = .ok (.iconst 0, 1) := by decide +kernel
theorem dX7_assemble_28 : decode cX7_assemble 28 = .ok (.putfield 137, 3) := by decide +kernel
theorem dX7_assemble_31 : decode cX7_assemble 31 = .ok (.aload_n 0, 1) := by decide +kernel
theorem dX7_assemble_32 : decode cX7_assemble 32 = .ok (.iconst 0, 1) := by decide +kernel
theorem dX7_assemble_33 : decode cX7_assemble 33 = .ok (.putfield 179, 3) := by decide +kernel
theorem dX7_assemble_36 : decode cX7_assemble 36 = .ok (.aload_n 0, 1) := by decide +kernel
theorem dX7_assemble_37 : decode cX7_assemble 37 = .ok (.iconst 0, 1) := by decide +kernel
theorem dX7_assemble_38 : decode cX7_assemble 38 = .ok (.putfield 162, 3) := by decide +kernel
theorem dX7_assemble_41 : decode cX7_assemble 41 = .ok (.aload_n 0, 1) := by decide +kernel
theorem dX7_assemble_42 : decode cX7_assemble 42 = .ok (.getfield 111, 3) := by decide +kernel
theorem dX7_assemble_45 : decode cX7_assemble 45 = .ok (.ifCond .ne 11, 3) := by decide +kernel
theorem dX7_assemble_48 : decode cX7_assemble 48 = .ok (.aload_n 0, 1) := by decide +kernel
theorem dX7_assemble_49 : decode cX7_assemble 49 = .ok (.getfield 7, 3) := by decide +kernel
theorem dX7_assemble_52 : decode cX7_assemble 52 = .ok (.iconst (-1), 1) := by decide +kernel
theorem dX7_assemble_53 : decode cX7_assemble 53 = .ok (.if_icmp .eq 42, 3) := by decide +kernel
theorem dX7_assemble_56 : decode cX7_assemble 56 = .ok (.aload_n 0, 1) := by decide +kernel
theorem dX7_assemble_57 : decode cX7_assemble 57 = .ok (.bipush 98, 2) := by decide +kernel
theorem dX7_assemble_59 : decode cX7_assemble 59 = .ok (.aload_n 0, 1) := by decide +kernel
theorem dX7_assemble_60 : decode cX7_assemble 60 = .ok (.getfield 111, 3) := by decide +kernel
theorem dX7_assemble_63 : decode cX7_assemble 63 = .ok (.ifCond .le 17, 3) := by decide +kernel
theorem dX7_assemble_66 : decode cX7_assemble 66 = .ok (.aload_n 0, 1) := by decide +kernel
theorem dX7_assemble_67 : decode cX7_assemble 67 = .ok (.getfield 29, 3) := by decide +kernel
theorem dX7_assemble_70 : decode cX7_assemble 70 = .ok (.aload_n 0, 1) := by decide +kernel
theorem dX7_assemble_71 : decode cX7_assemble 71 = .ok (.getfield 111, 3) := by decide +kernel
theorem dX7_assemble_74 : decode cX7_assemble 74 = .ok (.iconst 1, 1) := by decide +kernel
theorem dX7_assemble_75 : decode cX7_assemble 75 = .ok (.isub, 1) := by decide +kernel
theorem dX7_assemble_76 : decode cX7_assemble 76 = .ok (.iaload, 1) := by decide +kernel
theorem dX7_assemble_77 : decode cX7_assemble 77 = .ok (.goto 12, 3) := by decide +kernel
theorem dX7_assemble_80 : decode cX7_assemble 80 = .ok (.aload_n 0, 1) := by decide +kernel
theorem dX7_assemble_81 : decode cX7_assemble 81 = .ok (.getfield 32, 3) := by decide +kernel
theorem dX7_assemble_84 : decode cX7_assemble 84 = .ok (.aload_n 0, 1) := by decide +kernel
theorem dX7_assemble_85 : decode cX7_assemble 85 = .ok (.getfield 7, 3) := by decide +kernel
theorem dX7_assemble_88 : decode cX7_assemble 88 = .ok (.iaload, 1) := by decide +kernel
theorem dX7_assemble_89 : decode cX7_assemble 89 = .ok (.invokevirtual 130, 3) := by decide +kernel
theorem dX7_assemble_92 : decode cX7_assemble 92 = .ok (.ifCond .eq 7, 3) := by decide +kernel
theorem dX7_assemble_95 : decode cX7_assemble 95 = .ok (.iconst 1, 1) := by decide +kernel
theorem dX7_assemble_96 : decode cX7_assemble 96 = .ok (.goto 4, 3) := by decide +kernel
theorem dX7_assemble_99 : decode cX7_assemble 99 = .ok (.iconst 0, 1) := by decide +kernel
theorem dX7_assemble_100 : decode cX7_assemble 100 = .ok (.istore_n 1, 1) := by decide +kernel
theorem dX7_assemble_101 : decode cX7_assemble 101 = .ok (.iload_n 1, 1) := by decide +kernel
theorem dX7_assemble_102 : decode cX7_assemble 102 = .ok (.ifCond .eq 36, 3) := by decide +kernel
theorem dX7_assemble_105 : decode cX7_assemble 105 = .ok (.aload_n 0, 1) := by decide +kernel
theorem dX7_assemble_106 : decode cX7_assemble 106 = .ok (.iconst 0, 1) := by decide +kernel
theorem dX7_assemble_107 : decode cX7_assemble 107 = .ok (.aload_n 0, 1) := by decide +kernel
theorem dX7_assemble_108 : decode cX7_assemble 108 = .ok (.getfield 89, 3) := by decide +kernel
theorem dX7_assemble_111 : decode cX7_assemble 111 = .ok (.aload_n 0, 1) := by decide +kernel
theorem dX7_assemble_112 : decode cX7_assemble 112 = .ok (.iconst (-1), 1) := by decide +kernel
theorem dX7_assemble_113 : decode cX7_assemble 113 = .ok (.invokevirtual 144, 3) := by decide +kernel
theorem dX7_assemble_116 : decode cX7_assemble 116 = .ok (.iconst 0, 1) := by decide +kernel
theorem dX7_assemble_117 : decode cX7_assemble 117 = .ok (.iconst 0, 1) := by decide +kernel
theorem dX7_assemble_118 : decode cX7_assemble 118 = .ok (.iconst 0, 1) := by decide +kernel
theorem dX7_assemble_119 : decode cX7_assemble 119 = .ok (.iconst 0, 1) := by decide +kernel
theorem dX7_assemble_120 : decode cX7_assemble 120 = .ok (.iconst 0, 1) := by decide +kernel
theorem dX7_assemble_121 : decode cX7_assemble 121 = .ok (.invokevirtual 147, 3) := by decide +kernel
theorem dX7_assemble_124 : decode cX7_assemble 124 = .ok (.ifCond .eq 14, 3) := by decide +kernel
theorem dX7_assemble_127 : decode cX7_assemble 127 = .ok (.aload_n 0, 1) := by decide +kernel
theorem dX7_assemble_128 : decode cX7_assemble 128 = .ok (.invokevirtual 182, 3) := by decide +kernel
theorem dX7_assemble_131 : decode cX7_assemble 131 = .ok (.ifCond .eq 7, 3) := by decide +kernel
theorem dX7_assemble_134 : decode cX7_assemble 134 = .ok (.iconst 1, 1) := by decide +kernel
theorem dX7_assemble_135 : decode cX7_assemble 135 = .ok (.goto 4, 3) := by decide +kernel
theorem dX7_assemble_138 : decode cX7_assemble 138 = .ok (.iconst 0, 1) := by decide +kernel
theorem dX7_assemble_139 : decode cX7_assemble 139 = .ok (.istore_n 2, 1) := by decide +kernel
theorem dX7_assemble_140 : decode cX7_assemble 140 = .ok (.iload_n 2, 1) := by decide +kernel
theorem dX7_assemble_141 : decode cX7_assemble 141 = .ok (.ifCond .ne 5, 3) := by decide +kernel
theorem dX7_assemble_144 : decode cX7_assemble 144 = .ok (.iconst (-1), 1) := by decide +kernel
theorem dX7_assemble_145 : decode cX7_assemble 145 = .ok (.ireturn, 1) := by decide +kernel
theorem dX7_assemble_146 : decode cX7_assemble 146 = .ok (.iconst 1, 1) := by decide +kernel
theorem dX7_assemble_147 : decode cX7_assemble 147 = .ok (.istore_n 3, 1) := by decide +kernel
theorem dX7_assemble_148 : decode cX7_assemble 148 = .ok (.iload_n 3, 1) := by decide +kernel
theorem dX7_assemble_149 : decode cX7_assemble 149 = .ok (.ifCond .eq 21, 3) := by decide +kernel
theorem dX7_assemble_152 : decode cX7_assemble 152 = .ok (.aload_n 0, 1) := by decide +kernel
theorem dX7_assemble_153 : decode cX7_assemble 153 = .ok (.dup, 1) := by decide +kernel
theorem dX7_assemble_154 : decode cX7_assemble 154 = .ok (.getfield 179, 3) := by decide +kernel
theorem dX7_assemble_157 : decode cX7_assemble 157 = .ok (.iconst 1, 1) := by decide +kernel
theorem dX7_assemble_158 : decode cX7_assemble 158 = .ok (.iadd, 1) := by decide +kernel
theorem dX7_assemble_159 : decode cX7_assemble 159 = .ok (.putfield 179, 3) := by decide +kernel
theorem dX7_assemble_162 : decode cX7_assemble 162 = .ok (.aload_n 0, 1) := by decide +kernel
theorem dX7_assemble_163 : decode cX7_assemble 163 = .ok (.invokevirtual 186, 3) := by decide +kernel
theorem dX7_assemble_166 : decode cX7_assemble 166 = .ok (.istore_n 3, 1) := by decide +kernel
theorem dX7_assemble_167 : decode cX7_assemble 167 = .ok (.goto (-19), 3) := by decide +kernel
theorem dX7_assemble_170 : decode cX7_assemble 170 = .ok (.iconst 0, 1) := by decide +kernel
theorem dX7_assemble_171 : decode cX7_assemble 171 = .ok (.istore 4, 2) := by decide +kernel
theorem dX7_assemble_173 : decode cX7_assemble 173 = .ok (.iload 4, 2) := by decide +kernel
theorem dX7_assemble_175 : decode cX7_assemble 175 = .ok (.aload_n 0, 1) := by decide +kernel
theorem dX7_assemble_176 : decode cX7_assemble 176 = .ok (.getfield 124, 3) := by decide +kernel
theorem dX7_assemble_179 : decode cX7_assemble 179 = .ok (.if_icmp .ge 15, 3) := by decide +kernel
theorem dX7_assemble_182 : decode cX7_assemble 182 = .ok (.aload_n 0, 1) := by decide +kernel
theorem dX7_assemble_183 : decode cX7_assemble 183 = .ok (.iload 4, 2) := by decide +kernel
theorem dX7_assemble_185 : decode cX7_assemble 185 = .ok (.invokevirtual 189, 3) := by decide +kernel
theorem dX7_assemble_188 : decode cX7_assemble 188 = .ok (.iinc 4 1, 3) := by decide +kernel
theorem dX7_assemble_191 : decode cX7_assemble 191 = .ok (.goto (-18), 3) := by decide +kernel
theorem dX7_assemble_194 : decode cX7_assemble 194 = .ok (.aload_n 0, 1) := by decide +kernel
theorem dX7_assemble_195 : decode cX7_assemble 195 = .ok (.getfield 162, 3) := by decide +kernel
theorem dX7_assemble_198 : decode cX7_assemble 198 = .ok (.ireturn, 1) := by decide +kernel
theorem dX7_fault_0 : decode cX7_fault 0 = .ok (.aload_n 0, 1) := by decide +kernel
theorem dX7_fault_1 : decode cX7_fault 1 = .ok (.aload_n 0, 1) := by decide +kernel
theorem dX7_fault_2 : decode cX7_fault 2 = .ok (.getfield 175, 3) := by decide +kernel
theorem dX7_fault_5 : decode cX7_fault 5 = .ok (.ifCond .eq 7, 3) := by decide +kernel
theorem dX7_fault_8 : decode cX7_fault 8 = .ok (.iconst 0, 1) := by decide +kernel
theorem dX7_fault_9 : decode cX7_fault 9 = .ok (.goto 4, 3) := by decide +kernel
theorem dX7_fault_12 : decode cX7_fault 12 = .ok (.iconst 1, 1) := by decide +kernel
theorem dX7_fault_13 : decode cX7_fault 13 = .ok (.putfield 82, 3) := by decide +kernel
theorem dX7_fault_16 : decode cX7_fault 16 = .ok (.aload_n 0, 1) := by decide +kernel
theorem dX7_fault_17 : decode cX7_fault 17 = .ok (.getfield 175, 3) := by decide +kernel
theorem dX7_fault_20 : decode cX7_fault 20 = .ok (.ifCond .eq 10, 3) := by decide +kernel
theorem dX7_fault_23 : decode cX7_fault 23 = .ok (.aload_n 0, 1) := by decide +kernel
theorem dX7_fault_24 : decode cX7_fault 24 = .ok (.getfield 38, 3) := by decide +kernel
theorem dX7_fault_27 : decode cX7_fault 27 = .ok (.goto 4, 3) := by decide +kernel
theorem dX7_fault_30 : decode cX7_fault 30 = .ok (.iconst 0, 1) := by decide +kernel
theorem dX7_fault_31 : decode cX7_fault 31 = .ok (.ireturn, 1) := by decide +kernel
theorem dX7_faultLine_0 : decode cX7_faultLine 0 = .ok (.aload_n 0, 1) := by decide +kernel
theorem dX7_faultLine_1 : decode cX7_faultLine 1 = .ok (.aload_n 0, 1) := by decide +kernel
theorem dX7_faultLine_2 : decode cX7_faultLine 2 = .ok (.getfield 175, 3) := by decide +kernel
theorem dX7_faultLine_5 : decode cX7_faultLine 5 = .ok (.ifCond .eq 16, 3) := by decide +kernel
theorem dX7_faultLine_8 : decode cX7_faultLine 8 = .ok (.aload_n 0, 1) := by decide +kernel
theorem dX7_faultLine_9 : decode cX7_faultLine 9 = .ok (.getfield 38, 3) := by decide +kernel
theorem dX7_faultLine_12 : decode cX7_faultLine 12 = .ok (.bipush 110, 2) := by decide +kernel
theorem dX7_faultLine_14 : decode cX7_faultLine 14 = .ok (.if_icmp .eq 7, 3) := by decide +kernel
theorem dX7_faultLine_17 : decode cX7_faultLine 17 = .ok (.iconst 0, 1) := by decide +kernel
theorem dX7_faultLine_18 : decode cX7_faultLine 18 = .ok (.goto 4, 3) := by decide +kernel
theorem dX7_faultLine_21 : decode cX7_faultLine 21 = .ok (.iconst 1, 1) := by decide +kernel
theorem dX7_faultLine_22 : decode cX7_faultLine 22 = .ok (.putfield 82, 3) := by decide +kernel
theorem dX7_faultLine_25 : decode cX7_faultLine 25 = .ok (.aload_n 0, 1) := by decide +kernel
theorem dX7_faultLine_26 : decode cX7_faultLine 26 = .ok (.getfield 82, 3) := by decide +kernel
theorem dX7_faultLine_29 : decode cX7_faultLine 29 = .ok (.ifCond .le 7, 3) := by decide +kernel
theorem dX7_faultLine_32 : decode cX7_faultLine 32 = .ok (.iconst 0, 1) := by decide +kernel
theorem dX7_faultLine_33 : decode cX7_faultLine 33 = .ok (.goto 7, 3) := by decide +kernel
theorem dX7_faultLine_36 : decode cX7_faultLine 36 = .ok (.aload_n 0, 1) := by decide +kernel
theorem dX7_faultLine_37 : decode cX7_faultLine 37 = .ok (.getfield 118, 3) := by decide +kernel
theorem dX7_faultLine_40 : decode cX7_faultLine 40 = .ok (.ireturn, 1) := by decide +kernel
theorem dX7_less_0 : decode cX7_less 0 = .ok (.lload_n 0, 1) := by decide +kernel
theorem dX7_less_1 : decode cX7_less 1 = .ok (.ldc2_w 193, 3) := by decide +kernel
theorem dX7_less_4 : decode cX7_less 4 = .ok (.lcmp, 1) := by decide +kernel
theorem dX7_less_5 : decode cX7_less 5 = .ok (.ifCond .le 8, 3) := by decide +kernel
theorem dX7_less_8 : decode cX7_less 8 = .ok (.ldc 195, 2) := by decide +kernel
theorem dX7_less_10 : decode cX7_less 10 = .ok (.goto 5, 3) := by decide +kernel
theorem dX7_less_13 : decode cX7_less 13 = .ok (.lload_n 0, 1) := by decide +kernel
theorem dX7_less_14 : decode cX7_less 14 = .ok (.l2i, 1) := by decide +kernel
theorem dX7_less_15 : decode cX7_less 15 = .ok (.ireturn, 1) := by decide +kernel
theorem dX7_counts_0 : decode cX7_counts 0 = .ok (.lconst 0, 1) := by decide +kernel
theorem dX7_counts_1 : decode cX7_counts 1 = .ok (.lstore 5, 2) := by decide +kernel
theorem dX7_counts_3 : decode cX7_counts 3 = .ok (.iload_n 1, 1) := by decide +kernel
theorem dX7_counts_4 : decode cX7_counts 4 = .ok (.istore 7, 2) := by decide +kernel
theorem dX7_counts_6 : decode cX7_counts 6 = .ok (.iload 7, 2) := by decide +kernel
theorem dX7_counts_8 : decode cX7_counts 8 = .ok (.iload_n 2, 1) := by decide +kernel
theorem dX7_counts_9 : decode cX7_counts 9 = .ok (.if_icmp .ge 281, 3) := by decide +kernel
theorem dX7_counts_12 : decode cX7_counts 12 = .ok (.aload_n 0, 1) := by decide +kernel
theorem dX7_counts_13 : decode cX7_counts 13 = .ok (.getfield 13, 3) := by decide +kernel
theorem dX7_counts_16 : decode cX7_counts 16 = .ok (.iload 7, 2) := by decide +kernel
theorem dX7_counts_18 : decode cX7_counts 18 = .ok (.iaload, 1) := by decide +kernel
theorem dX7_counts_19 : decode cX7_counts 19 = .ok (.istore 8, 2) := by decide +kernel
theorem dX7_counts_21 : decode cX7_counts 21 = .ok (.iload 8, 2) := by decide +kernel
theorem dX7_counts_23 : decode cX7_counts 23 = .ok (.bipush 11, 2) := by decide +kernel
theorem dX7_counts_25 : decode cX7_counts 25 = .ok (.if_icmp .ne 15, 3) := by decide +kernel
theorem dX7_counts_28 : decode cX7_counts 28 = .ok (.aload_n 0, 1) := by decide +kernel
theorem dX7_counts_29 : decode cX7_counts 29 = .ok (.getfield 26, 3) := by decide +kernel
theorem dX7_counts_32 : decode cX7_counts 32 = .ok (.iload 7, 2) := by decide +kernel
theorem dX7_counts_34 : decode cX7_counts 34 = .ok (.iaload, 1) := by decide +kernel
theorem dX7_counts_35 : decode cX7_counts 35 = .ok (.istore 7, 2) := by decide +kernel
theorem dX7_counts_37 : decode cX7_counts 37 = .ok (.goto 247, 3) := by decide +kernel
theorem dX7_counts_40 : decode cX7_counts 40 = .ok (.aload_n 0, 1) := by decide +kernel
theorem dX7_counts_41 : decode cX7_counts 41 = .ok (.getfield 17, 3) := by decide +kernel
theorem dX7_counts_44 : decode cX7_counts 44 = .ok (.iload 7, 2) := by decide +kernel
theorem dX7_counts_46 : decode cX7_counts 46 = .ok (.iaload, 1) := by decide +kernel
theorem dX7_counts_47 : decode cX7_counts 47 = .ok (.iconst (-1), 1) := by decide +kernel
theorem dX7_counts_48 : decode cX7_counts 48 = .ok (.if_icmp .ne 7, 3) := by decide +kernel
theorem dX7_counts_51 : decode cX7_counts 51 = .ok (.iload_n 3, 1) := by decide +kernel
theorem dX7_counts_52 : decode cX7_counts 52 = .ok (.goto 27, 3) := by decide +kernel
theorem dX7_counts_55 : decode cX7_counts 55 = .ok (.aload_n 0, 1) := by decide +kernel
theorem dX7_counts_56 : decode cX7_counts 56 = .ok (.getfield 17, 3) := by decide +kernel
theorem dX7_counts_59 : decode cX7_counts 59 = .ok (.iload 7, 2) := by decide +kernel
theorem dX7_counts_61 : decode cX7_counts 61 = .ok (.iaload, 1) := by decide +kernel
theorem dX7_counts_62 : decode cX7_counts 62 = .ok (.bipush (-2), 2) := by decide +kernel
theorem dX7_counts_64 : decode cX7_counts 64 = .ok (.if_icmp .ne 8, 3) := by decide +kernel
theorem dX7_counts_67 : decode cX7_counts 67 = .ok (.iload 4, 2) := by decide +kernel
theorem dX7_counts_69 : decode cX7_counts 69 = .ok (.goto 10, 3) := by decide +kernel
theorem dX7_counts_72 : decode cX7_counts 72 = .ok (.aload_n 0, 1) := by decide +kernel
theorem dX7_counts_73 : decode cX7_counts 73 = .ok (.getfield 17, 3) := by decide +kernel
theorem dX7_counts_76 : decode cX7_counts 76 = .ok (.iload 7, 2) := by decide +kernel
theorem dX7_counts_78 : decode cX7_counts 78 = .ok (.iaload, 1) := by decide +kernel
theorem dX7_counts_79 : decode cX7_counts 79 = .ok (.istore 9, 2) := by decide +kernel
theorem dX7_counts_81 : decode cX7_counts 81 = .ok (.aload_n 0, 1) := by decide +kernel
theorem dX7_counts_82 : decode cX7_counts 82 = .ok (.getfield 20, 3) := by decide +kernel
theorem dX7_counts_85 : decode cX7_counts 85 = .ok (.iload 7, 2) := by decide +kernel
theorem dX7_counts_87 : decode cX7_counts 87 = .ok (.iaload, 1) := by decide +kernel
theorem dX7_counts_88 : decode cX7_counts 88 = .ok (.iconst (-1), 1) := by decide +kernel
theorem dX7_counts_89 : decode cX7_counts 89 = .ok (.if_icmp .ne 7, 3) := by decide +kernel
theorem dX7_counts_92 : decode cX7_counts 92 = .ok (.iload_n 3, 1) := by decide +kernel
theorem dX7_counts_93 : decode cX7_counts 93 = .ok (.goto 27, 3) := by decide +kernel
theorem dX7_counts_96 : decode cX7_counts 96 = .ok (.aload_n 0, 1) := by decide +kernel
theorem dX7_counts_97 : decode cX7_counts 97 = .ok (.getfield 20, 3) := by decide +kernel
theorem dX7_counts_100 : decode cX7_counts 100 = .ok (.iload 7, 2) := by decide +kernel
theorem dX7_counts_102 : decode cX7_counts 102 = .ok (.iaload, 1) := by decide +kernel
theorem dX7_counts_103 : decode cX7_counts 103 = .ok (.bipush (-2), 2) := by decide +kernel
theorem dX7_counts_105 : decode cX7_counts 105 = .ok (.if_icmp .ne 8, 3) := by decide +kernel
theorem dX7_counts_108 : decode cX7_counts 108 = .ok (.iload 4, 2) := by decide +kernel
theorem dX7_counts_110 : decode cX7_counts 110 = .ok (.goto 10, 3) := by decide +kernel
theorem dX7_counts_113 : decode cX7_counts 113 = .ok (.aload_n 0, 1) := by decide +kernel
theorem dX7_counts_114 : decode cX7_counts 114 = .ok (.getfield 20, 3) := by decide +kernel
theorem dX7_counts_117 : decode cX7_counts 117 = .ok (.iload 7, 2) := by decide +kernel
theorem dX7_counts_119 : decode cX7_counts 119 = .ok (.iaload, 1) := by decide +kernel
theorem dX7_counts_120 : decode cX7_counts 120 = .ok (.istore 10, 2) := by decide +kernel
theorem dX7_counts_122 : decode cX7_counts 122 = .ok (.lload 5, 2) := by decide +kernel
theorem dX7_counts_124 : decode cX7_counts 124 = .ok (.iload 8, 2) := by decide +kernel
theorem dX7_counts_126 : decode cX7_counts 126 = .ok (.bipush 6, 2) := by decide +kernel
theorem dX7_counts_128 : decode cX7_counts 128 = .ok (.if_icmp .ge 7, 3) := by decide +kernel
theorem dX7_counts_131 : decode cX7_counts 131 = .ok (.lconst 1, 1) := by decide +kernel
theorem dX7_counts_132 : decode cX7_counts 132 = .ok (.goto 30, 3) := by decide +kernel
theorem dX7_counts_135 : decode cX7_counts 135 = .ok (.iload 8, 2) := by decide +kernel
theorem dX7_counts_137 : decode cX7_counts 137 = .ok (.bipush 6, 2) := by decide +kernel
theorem dX7_counts_139 : decode cX7_counts 139 = .ok (.if_icmp .ne 22, 3) := by decide +kernel
theorem dX7_counts_142 : decode cX7_counts 142 = .ok (.aload_n 0, 1) := by decide +kernel
theorem dX7_counts_143 : decode cX7_counts 143 = .ok (.aload_n 0, 1) := by decide +kernel
theorem dX7_counts_144 : decode cX7_counts 144 = .ok (.getfield 23, 3) := by decide +kernel
theorem dX7_counts_147 : decode cX7_counts 147 = .ok (.iload 7, 2) := by decide +kernel
theorem dX7_counts_149 : decode cX7_counts 149 = .ok (.iaload, 1) := by decide +kernel
theorem dX7_counts_150 : decode cX7_counts 150 = .ok (.iload 9, 2) := by decide +kernel
theorem dX7_counts_152 : decode cX7_counts 152 = .ok (.iload 10, 2) := by decide +kernel
theorem dX7_counts_154 : decode cX7_counts 154 = .ok (.invokevirtual 196, 3) := by decide +kernel
theorem dX7_counts_157 : decode cX7_counts 157 = .ok (.i2l, 1) := by decide +kernel
theorem dX7_counts_158 : decode cX7_counts 158 = .ok (.goto 4, 3) := by decide +kernel
theorem dX7_counts_161 : decode cX7_counts 161 = .ok (.lconst 0, 1) := by decide +kernel
theorem dX7_counts_162 : decode cX7_counts 162 = .ok (.ladd, 1) := by decide +kernel
theorem dX7_counts_163 : decode cX7_counts 163 = .ok (.lstore 5, 2) := by decide +kernel
theorem dX7_counts_165 : decode cX7_counts 165 = .ok (.iload 8, 2) := by decide +kernel
theorem dX7_counts_167 : decode cX7_counts 167 = .ok (.bipush 7, 2) := by decide +kernel
theorem dX7_counts_169 : decode cX7_counts 169 = .ok (.if_icmp .ge 6, 3) := by decide +kernel
theorem dX7_counts_172 : decode cX7_counts 172 = .ok (.goto 112, 3) := by decide +kernel
theorem dX7_counts_175 : decode cX7_counts 175 = .ok (.aload_n 0, 1) := by decide +kernel
theorem dX7_counts_176 : decode cX7_counts 176 = .ok (.aload_n 0, 1) := by decide +kernel
theorem dX7_counts_177 : decode cX7_counts 177 = .ok (.getfield 199, 3) := by decide +kernel
theorem dX7_counts_180 : decode cX7_counts 180 = .ok (.ifCond .ne 17, 3) := by decide +kernel
theorem dX7_counts_183 : decode cX7_counts 183 = .ok (.iload 8, 2) := by decide +kernel
theorem dX7_counts_185 : decode cX7_counts 185 = .ok (.bipush 8, 2) := by decide +kernel
theorem dX7_counts_187 : decode cX7_counts 187 = .ok (.if_icmp .ne 14, 3) := by decide +kernel
theorem dX7_counts_190 : decode cX7_counts 190 = .ok (.iload 9, 2) := by decide +kernel
theorem dX7_counts_192 : decode cX7_counts 192 = .ok (.bipush 9, 2) := by decide +kernel
theorem dX7_counts_194 : decode cX7_counts 194 = .ok (.if_icmp .le 7, 3) := by decide +kernel
theorem dX7_counts_197 : decode cX7_counts 197 = .ok (.iconst 1, 1) := by decide +kernel
theorem dX7_counts_198 : decode cX7_counts 198 = .ok (.goto 4, 3) := by decide +kernel
theorem dX7_counts_201 : decode cX7_counts 201 = .ok (.iconst 0, 1) := by decide +kernel
theorem dX7_counts_202 : decode cX7_counts 202 = .ok (.putfield 199, 3) := by decide +kernel
theorem dX7_counts_205 : decode cX7_counts 205 = .ok (.iload 8, 2) := by decide +kernel
theorem dX7_counts_207 : decode cX7_counts 207 = .ok (.bipush 7, 2) := by decide +kernel
theorem dX7_counts_209 : decode cX7_counts 209 = .ok (.if_icmp .ne 7, 3) := by decide +kernel
theorem dX7_counts_212 : decode cX7_counts 212 = .ok (.iconst 1, 1) := by decide +kernel
theorem dX7_counts_213 : decode cX7_counts 213 = .ok (.goto 27, 3) := by decide +kernel
theorem dX7_counts_216 : decode cX7_counts 216 = .ok (.iload 8, 2) := by decide +kernel
theorem dX7_counts_218 : decode cX7_counts 218 = .ok (.bipush 8, 2) := by decide +kernel
theorem dX7_counts_220 : decode cX7_counts 220 = .ok (.if_icmp .ne 8, 3) := by decide +kernel
theorem dX7_counts_223 : decode cX7_counts 223 = .ok (.iload 9, 2) := by decide +kernel
theorem dX7_counts_225 : decode cX7_counts 225 = .ok (.goto 15, 3) := by decide +kernel
theorem dX7_counts_228 : decode cX7_counts 228 = .ok (.iload 9, 2) := by decide +kernel
theorem dX7_counts_230 : decode cX7_counts 230 = .ok (.iload 10, 2) := by decide +kernel
theorem dX7_counts_232 : decode cX7_counts 232 = .ok (.if_icmp .ne 7, 3) := by decide +kernel
theorem dX7_counts_235 : decode cX7_counts 235 = .ok (.iconst 1, 1) := by decide +kernel
theorem dX7_counts_236 : decode cX7_counts 236 = .ok (.goto 4, 3) := by decide +kernel
theorem dX7_counts_239 : decode cX7_counts 239 = .ok (.iconst 0, 1) := by decide +kernel
theorem dX7_counts_240 : decode cX7_counts 240 = .ok (.istore 11, 2) := by decide +kernel
theorem dX7_counts_242 : decode cX7_counts 242 = .ok (.iload 11, 2) := by decide +kernel
theorem dX7_counts_244 : decode cX7_counts 244 = .ok (.ifCond .le 31, 3) := by decide +kernel
theorem dX7_counts_247 : decode cX7_counts 247 = .ok (.lload 5, 2) := by decide +kernel
theorem dX7_counts_249 : decode cX7_counts 249 = .ok (.iload 11, 2) := by decide +kernel
theorem dX7_counts_251 : decode cX7_counts 251 = .ok (.i2l, 1) := by decide +kernel
theorem dX7_counts_252 : decode cX7_counts 252 = .ok (.aload_n 0, 1) := by decide +kernel
theorem dX7_counts_253 : decode cX7_counts 253 = .ok (.iload 7, 2) := by decide +kernel
theorem dX7_counts_255 : decode cX7_counts 255 = .ok (.iconst 1, 1) := by decide +kernel
theorem dX7_counts_256 : decode cX7_counts 256 = .ok (.iadd, 1) := by decide +kernel
theorem dX7_counts_257 : decode cX7_counts 257 = .ok (.aload_n 0, 1) := by decide +kernel
theorem dX7_counts_258 : decode cX7_counts 258 = .ok (.getfield 26, 3) := by decide +kernel
theorem dX7_counts_261 : decode cX7_counts 261 = .ok (.iload 7, 2) := by decide +kernel
theorem dX7_counts_263 : decode cX7_counts 263 = .ok (.iaload, 1) := by decide +kernel
theorem dX7_counts_264 : decode cX7_counts 264 = .ok (.iload_n 3, 1) := by decide +kernel
theorem dX7_counts_265 : decode cX7_counts 265 = .ok (.iload 4, 2) := by decide +kernel
theorem dX7_counts_267 : decode cX7_counts 267 = .ok (.invokevirtual 202, 3) := by decide +kernel
theorem dX7_counts_270 : decode cX7_counts 270 = .ok (.i2l, 1) := by decide +kernel
theorem dX7_counts_271 : decode cX7_counts 271 = .ok (.lmul, 1) := by decide +kernel
theorem dX7_counts_272 : decode cX7_counts 272 = .ok (.ladd, 1) := by decide +kernel
theorem dX7_counts_273 : decode cX7_counts 273 = .ok (.lstore 5, 2) := by decide +kernel
theorem dX7_counts_275 : decode cX7_counts 275 = .ok (.aload_n 0, 1) := by decide +kernel
theorem dX7_counts_276 : decode cX7_counts 276 = .ok (.getfield 26, 3) := by decide +kernel
theorem dX7_counts_279 : decode cX7_counts 279 = .ok (.iload 7, 2) := by decide +kernel
theorem dX7_counts_281 : decode cX7_counts 281 = .ok (.iaload, 1) := by decide +kernel
theorem dX7_counts_282 : decode cX7_counts 282 = .ok (.istore 7, 2) := by decide +kernel
theorem dX7_counts_284 : decode cX7_counts 284 = .ok (.iinc 7 1, 3) := by decide +kernel
theorem dX7_counts_287 : decode cX7_counts 287 = .ok (.goto (-281), 3) := by decide +kernel
theorem dX7_counts_290 : decode cX7_counts 290 = .ok (.lload 5, 2) := by decide +kernel
theorem dX7_counts_292 : decode cX7_counts 292 = .ok (.invokestatic 205, 3) := by decide +kernel
theorem dX7_counts_295 : decode cX7_counts 295 = .ok (.ireturn, 1) := by decide +kernel
theorem dX7_countsMacro_0 : decode cX7_countsMacro 0 = .ok (.iconst 1, 1) := by decide +kernel
theorem dX7_countsMacro_1 : decode cX7_countsMacro 1 = .ok (.iload_n 3, 1) := by decide +kernel
theorem dX7_countsMacro_2 : decode cX7_countsMacro 2 = .ok (.iadd, 1) := by decide +kernel
theorem dX7_countsMacro_3 : decode cX7_countsMacro 3 = .ok (.sipush 1000, 3) := by decide +kernel
theorem dX7_countsMacro_6 : decode cX7_countsMacro 6 = .ok (.iload_n 2, 1) := by decide +kernel
theorem dX7_countsMacro_7 : decode cX7_countsMacro 7 = .ok (.sipush 1000, 3) := by decide +kernel
theorem dX7_countsMacro_10 : decode cX7_countsMacro 10 = .ok (.iload_n 1, 1) := by decide +kernel
theorem dX7_countsMacro_11 : decode cX7_countsMacro 11 = .ok (.imul, 1) := by decide +kernel
theorem dX7_countsMacro_12 : decode cX7_countsMacro 12 = .ok (.iadd, 1) := by decide +kernel
theorem dX7_countsMacro_13 : decode cX7_countsMacro 13 = .ok (.imul, 1) := by decide +kernel
theorem dX7_countsMacro_14 : decode cX7_countsMacro 14 = .ok (.iadd, 1) := by decide +kernel
theorem dX7_countsMacro_15 : decode cX7_countsMacro 15 = .ok (.istore 4, 2) := by decide +kernel
theorem dX7_countsMacro_17 : decode cX7_countsMacro 17 = .ok (.bipush 31, 2) := by decide +kernel
theorem dX7_countsMacro_19 : decode cX7_countsMacro 19 = .ok (.iload_n 3, 1) := by decide +kernel
theorem dX7_countsMacro_20 : decode cX7_countsMacro 20 = .ok (.imul, 1) := by decide +kernel
theorem dX7_countsMacro_21 : decode cX7_countsMacro 21 = .ok (.bipush 7, 2) := by decide +kernel
theorem dX7_countsMacro_23 : decode cX7_countsMacro 23 = .ok (.iload_n 2, 1) := by decide +kernel
theorem dX7_countsMacro_24 : decode cX7_countsMacro 24 = .ok (.imul, 1) := by decide +kernel
theorem dX7_countsMacro_25 : decode cX7_countsMacro 25 = .ok (.iadd, 1) := by decide +kernel
theorem dX7_countsMacro_26 : decode cX7_countsMacro 26 = .ok (.sipush 513, 3) := by decide +kernel
theorem dX7_countsMacro_29 : decode cX7_countsMacro 29 = .ok (.iload_n 1, 1) := by decide +kernel
theorem dX7_countsMacro_30 : decode cX7_countsMacro 30 = .ok (.imul, 1) := by decide +kernel
theorem dX7_countsMacro_31 : decode cX7_countsMacro 31 = .ok (.iadd, 1) := by decide +kernel
theorem dX7_countsMacro_32 : decode cX7_countsMacro 32 = .ok (.sipush 4096, 3) := by decide +kernel
theorem dX7_countsMacro_35 : decode cX7_countsMacro 35 = .ok (.irem, 1) := by decide +kernel
theorem dX7_countsMacro_36 : decode cX7_countsMacro 36 = .ok (.istore 5, 2) := by decide +kernel
theorem dX7_countsMacro_38 : decode cX7_countsMacro 38 = .ok (.iconst 0, 1) := by decide +kernel
theorem dX7_countsMacro_39 : decode cX7_countsMacro 39 = .ok (.istore 6, 2) := by decide +kernel
theorem dX7_countsMacro_41 : decode cX7_countsMacro 41 = .ok (.iload 6, 2) := by decide +kernel
theorem dX7_countsMacro_43 : decode cX7_countsMacro 43 = .ok (.sipush 4096, 3) := by decide +kernel
theorem dX7_countsMacro_46 : decode cX7_countsMacro 46 = .ok (.if_icmp .ge 41, 3) := by decide +kernel
theorem dX7_countsMacro_49 : decode cX7_countsMacro 49 = .ok (.aload_n 0, 1) := by decide +kernel
theorem dX7_countsMacro_50 : decode cX7_countsMacro 50 = .ok (.getfield 76, 3) := by decide +kernel
theorem dX7_countsMacro_53 : decode cX7_countsMacro 53 = .ok (.iload 5, 2) := by decide +kernel
theorem dX7_countsMacro_55 : decode cX7_countsMacro 55 = .ok (.iaload, 1) := by decide +kernel
theorem dX7_countsMacro_56 : decode cX7_countsMacro 56 = .ok (.ifCond .eq 31, 3) := by decide +kernel
theorem dX7_countsMacro_59 : decode cX7_countsMacro 59 = .ok (.aload_n 0, 1) := by decide +kernel
theorem dX7_countsMacro_60 : decode cX7_countsMacro 60 = .ok (.getfield 76, 3) := by decide +kernel
theorem dX7_countsMacro_63 : decode cX7_countsMacro 63 = .ok (.iload 5, 2) := by decide +kernel
theorem dX7_countsMacro_65 : decode cX7_countsMacro 65 = .ok (.iaload, 1) := by decide +kernel
theorem dX7_countsMacro_66 : decode cX7_countsMacro 66 = .ok (.iload 4, 2) := by decide +kernel
theorem dX7_countsMacro_68 : decode cX7_countsMacro 68 = .ok (.if_icmp .eq 19, 3) := by decide +kernel
theorem dX7_countsMacro_71 : decode cX7_countsMacro 71 = .ok (.iload 5, 2) := by decide +kernel
theorem dX7_countsMacro_73 : decode cX7_countsMacro 73 = .ok (.iconst 1, 1) := by decide +kernel
theorem dX7_countsMacro_74 : decode cX7_countsMacro 74 = .ok (.iadd, 1) := by decide +kernel
theorem dX7_countsMacro_75 : decode cX7_countsMacro 75 = .ok (.sipush 4096, 3) := by decide +kernel
theorem dX7_countsMacro_78 : decode cX7_countsMacro 78 = .ok (.irem, 1) := by decide +kernel
theorem dX7_countsMacro_79 : decode cX7_countsMacro 79 = .ok (.istore 5, 2) := by decide +kernel
theorem dX7_countsMacro_81 : decode cX7_countsMacro 81 = .ok (.iinc 6 1, 3) := by decide +kernel
theorem dX7_countsMacro_84 : decode cX7_countsMacro 84 = .ok (.goto (-43), 3) := by decide +kernel
theorem dX7_countsMacro_87 : decode cX7_countsMacro 87 = .ok (.aload_n 0, 1) := by decide +kernel
theorem dX7_countsMacro_88 : decode cX7_countsMacro 88 = .ok (.getfield 76, 3) := by decide +kernel
theorem dX7_countsMacro_91 : decode cX7_countsMacro 91 = .ok (.iload 5, 2) := by decide +kernel
theorem dX7_countsMacro_93 : decode cX7_countsMacro 93 = .ok (.iaload, 1) := by decide +kernel
theorem dX7_countsMacro_94 : decode cX7_countsMacro 94 = .ok (.iload 4, 2) := by decide +kernel
theorem dX7_countsMacro_96 : decode cX7_countsMacro 96 = .ok (.if_icmp .ne 11, 3) := by decide +kernel
theorem dX7_countsMacro_99 : decode cX7_countsMacro 99 = .ok (.aload_n 0, 1) := by decide +kernel
theorem dX7_countsMacro_100 : decode cX7_countsMacro 100 = .ok (.getfield 79, 3) := by decide +kernel
theorem dX7_countsMacro_103 : decode cX7_countsMacro 103 = .ok (.iload 5, 2) := by decide +kernel
theorem dX7_countsMacro_105 : decode cX7_countsMacro 105 = .ok (.iaload, 1) := by decide +kernel
theorem dX7_countsMacro_106 : decode cX7_countsMacro 106 = .ok (.ireturn, 1) := by decide +kernel
theorem dX7_countsMacro_107 : decode cX7_countsMacro 107 = .ok (.aload_n 0, 1) := by decide +kernel
theorem dX7_countsMacro_108 : decode cX7_countsMacro 108 = .ok (.aload_n 0, 1) := by decide +kernel
theorem dX7_countsMacro_109 : decode cX7_countsMacro 109 = .ok (.getfield 32, 3) := by decide +kernel
theorem dX7_countsMacro_112 : decode cX7_countsMacro 112 = .ok (.iload_n 1, 1) := by decide +kernel
theorem dX7_countsMacro_113 : decode cX7_countsMacro 113 = .ok (.iaload, 1) := by decide +kernel
theorem dX7_countsMacro_114 : decode cX7_countsMacro 114 = .ok (.iconst 1, 1) := by decide +kernel
theorem dX7_countsMacro_115 : decode cX7_countsMacro 115 = .ok (.iadd, 1) := by decide +kernel
theorem dX7_countsMacro_116 : decode cX7_countsMacro 116 = .ok (.aload_n 0, 1) := by decide +kernel
theorem dX7_countsMacro_117 : decode cX7_countsMacro 117 = .ok (.getfield 35, 3) := by decide +kernel
theorem dX7_countsMacro_120 : decode cX7_countsMacro 120 = .ok (.iload_n 1, 1) := by decide +kernel
theorem dX7_countsMacro_121 : decode cX7_countsMacro 121 = .ok (.iaload, 1) := by decide +kernel
theorem dX7_countsMacro_122 : decode cX7_countsMacro 122 = .ok (.iload_n 2, 1) := by decide +kernel
theorem dX7_countsMacro_123 : decode cX7_countsMacro 123 = .ok (.iload_n 3, 1) := by decide +kernel
theorem dX7_countsMacro_124 : decode cX7_countsMacro 124 = .ok (.invokevirtual 202, 3) := by decide +kernel
theorem dX7_countsMacro_127 : decode cX7_countsMacro 127 = .ok (.istore 7, 2) := by decide +kernel
theorem dX7_countsMacro_129 : decode cX7_countsMacro 129 = .ok (.bipush 31, 2) := by decide +kernel
theorem dX7_countsMacro_131 : decode cX7_countsMacro 131 = .ok (.iload_n 3, 1) := by decide +kernel
theorem dX7_countsMacro_132 : decode cX7_countsMacro 132 = .ok (.imul, 1) := by decide +kernel
theorem dX7_countsMacro_133 : decode cX7_countsMacro 133 = .ok (.bipush 7, 2) := by decide +kernel
theorem dX7_countsMacro_135 : decode cX7_countsMacro 135 = .ok (.iload_n 2, 1) := by decide +kernel
theorem dX7_countsMacro_136 : decode cX7_countsMacro 136 = .ok (.imul, 1) := by decide +kernel
theorem dX7_countsMacro_137 : decode cX7_countsMacro 137 = .ok (.iadd, 1) := by decide +kernel
theorem dX7_countsMacro_138 : decode cX7_countsMacro 138 = .ok (.sipush 513, 3) := by decide +kernel
theorem dX7_countsMacro_141 : decode cX7_countsMacro 141 = .ok (.iload_n 1, 1) := by decide +kernel
theorem dX7_countsMacro_142 : decode cX7_countsMacro 142 = .ok (.imul, 1) := by decide +kernel
theorem dX7_countsMacro_143 : decode cX7_countsMacro 143 = .ok (.iadd, 1) := by decide +kernel
theorem dX7_countsMacro_144 : decode cX7_countsMacro 144 = .ok (.sipush 4096, 3) := by decide +kernel
theorem dX7_countsMacro_147 : decode cX7_countsMacro 147 = .ok (.irem, 1) := by decide +kernel
theorem dX7_countsMacro_148 : decode cX7_countsMacro 148 = .ok (.istore 8, 2) := by decide +kernel
theorem dX7_countsMacro_150 : decode cX7_countsMacro 150 = .ok (.iconst 0, 1) := by decide +kernel
theorem dX7_countsMacro_151 : decode cX7_countsMacro 151 = .ok (.istore 6, 2) := by decide +kernel
theorem dX7_countsMacro_153 : decode cX7_countsMacro 153 = .ok (.iload 6, 2) := by decide +kernel
theorem dX7_countsMacro_155 : decode cX7_countsMacro 155 = .ok (.sipush 4096, 3) := by decide +kernel
theorem dX7_countsMacro_158 : decode cX7_countsMacro 158 = .ok (.if_icmp .ge 29, 3) := by decide +kernel
theorem dX7_countsMacro_161 : decode cX7_countsMacro 161 = .ok (.aload_n 0, 1) := by decide +kernel
theorem dX7_countsMacro_162 : decode cX7_countsMacro 162 = .ok (.getfield 76, 3) := by decide +kernel
theorem dX7_countsMacro_165 : decode cX7_countsMacro 165 = .ok (.iload 8, 2) := by decide +kernel
theorem dX7_countsMacro_167 : decode cX7_countsMacro 167 = .ok (.iaload, 1) := by decide +kernel
theorem dX7_countsMacro_168 : decode cX7_countsMacro 168 = .ok (.ifCond .eq 19, 3) := by decide +kernel
theorem dX7_countsMacro_171 : decode cX7_countsMacro 171 = .ok (.iload 8, 2) := by decide +kernel
theorem dX7_countsMacro_173 : decode cX7_countsMacro 173 = .ok (.iconst 1, 1) := by decide +kernel
theorem dX7_countsMacro_174 : decode cX7_countsMacro 174 = .ok (.iadd, 1) := by decide +kernel
theorem dX7_countsMacro_175 : decode cX7_countsMacro 175 = .ok (.sipush 4096, 3) := by decide +kernel
