theorem dX4_open_25 : decode cX4_open 25 = .ok (.getfield 28, 3) := by decide +kernel
theorem dX4_open_28 : decode cX4_open 28 = .ok (.aload_n 0, 1) := by decide +kernel
theorem dX4_open_29 : decode cX4_open 29 = .ok (.getfield 24, 3) := by decide +kernel
theorem dX4_open_32 : decode cX4_open 32 = .ok (.invokevirtual 36, 3) := by decide +kernel
theorem dX4_open_35 : decode cX4_open 35 = .ok (.iastore, 1) := by decide +kernel
theorem dX4_open_36 : decode cX4_open 36 = .ok (.aload_n 0, 1) := by decide +kernel
theorem dX4_open_37 : decode cX4_open 37 = .ok (.getfield 9, 3) := by decide +kernel
theorem dX4_open_40 : decode cX4_open 40 = .ok (.aload_n 0, 1) := by decide +kernel
theorem dX4_open_41 : decode cX4_open 41 = .ok (.getfield 28, 3) := by decide +kernel
theorem dX4_open_44 : decode cX4_open 44 = .ok (.bipush 20, 2) := by decide +kernel
theorem dX4_open_46 : decode cX4_open 46 = .ok (.imul, 1) := by decide +kernel
theorem dX4_open_47 : decode cX4_open 47 = .ok (.aload_n 0, 1) := by decide +kernel
theorem dX4_open_48 : decode cX4_open 48 = .ok (.getfield 28, 3) := by decide +kernel
theorem dX4_open_51 : decode cX4_open 51 = .ok (.iconst 1, 1) := by decide +kernel
theorem dX4_open_52 : decode cX4_open 52 = .ok (.iadd, 1) := by decide +kernel
theorem dX4_open_53 : decode cX4_open 53 = .ok (.bipush 20, 2) := by decide +kernel
theorem dX4_open_55 : decode cX4_open 55 = .ok (.imul, 1) := by decide +kernel
theorem dX4_open_56 : decode cX4_open 56 = .ok (.iconst (-1), 1) := by decide +kernel
theorem dX4_open_57 : decode cX4_open 57 = .ok (.invokestatic 42, 3) := by decide +kernel
theorem dX4_open_60 : decode cX4_open 60 = .ok (.aload_n 0, 1) := by decide +kernel
theorem dX4_open_61 : decode cX4_open 61 = .ok (.dup, 1) := by decide +kernel
theorem dX4_open_62 : decode cX4_open 62 = .ok (.getfield 28, 3) := by decide +kernel
theorem dX4_open_65 : decode cX4_open 65 = .ok (.iconst 1, 1) := by decide +kernel
theorem dX4_open_66 : decode cX4_open 66 = .ok (.iadd, 1) := by decide +kernel
theorem dX4_open_67 : decode cX4_open 67 = .ok (.putfield 28, 3) := by decide +kernel
theorem dX4_open_70 : decode cX4_open 70 = .ok (.return_, 1) := by decide +kernel
theorem dX4_close_0 : decode cX4_close 0 = .ok (.aload_n 0, 1) := by decide +kernel
theorem dX4_close_1 : decode cX4_close 1 = .ok (.invokevirtual 48, 3) := by decide +kernel
theorem dX4_close_4 : decode cX4_close 4 = .ok (.istore_n 1, 1) := by decide +kernel
theorem dX4_close_5 : decode cX4_close 5 = .ok (.iload_n 1, 1) := by decide +kernel
theorem dX4_close_6 : decode cX4_close 6 = .ok (.ifCond .ge 4, 3) := by decide +kernel
theorem dX4_close_9 : decode cX4_close 9 = .ok (.return_, 1) := by decide +kernel
theorem dX4_close_10 : decode cX4_close 10 = .ok (.aload_n 0, 1) := by decide +kernel
theorem dX4_close_11 : decode cX4_close 11 = .ok (.getfield 18, 3) := by decide +kernel
theorem dX4_close_14 : decode cX4_close 14 = .ok (.iload_n 1, 1) := by decide +kernel
theorem dX4_close_15 : decode cX4_close 15 = .ok (.invokestatic 51, 3) := by decide +kernel
theorem dX4_close_18 : decode cX4_close 18 = .ok (.istore_n 2, 1) := by decide +kernel
theorem dX4_close_19 : decode cX4_close 19 = .ok (.iload_n 2, 1) := by decide +kernel
theorem dX4_close_20 : decode cX4_close 20 = .ok (.aload_n 0, 1) := by decide +kernel
theorem dX4_close_21 : decode cX4_close 21 = .ok (.getfield 24, 3) := by decide +kernel
theorem dX4_close_24 : decode cX4_close 24 = .ok (.invokevirtual 36, 3) := by decide +kernel
theorem dX4_close_27 : decode cX4_close 27 = .ok (.if_icmp .ge 66, 3) := by decide +kernel
theorem dX4_close_30 : decode cX4_close 30 = .ok (.aload_n 0, 1) := by decide +kernel
theorem dX4_close_31 : decode cX4_close 31 = .ok (.getfield 21, 3) := by decide +kernel
theorem dX4_close_34 : decode cX4_close 34 = .ok (.iload_n 2, 1) := by decide +kernel
theorem dX4_close_35 : decode cX4_close 35 = .ok (.invokestatic 51, 3) := by decide +kernel
theorem dX4_close_38 : decode cX4_close 38 = .ok (.iload_n 1, 1) := by decide +kernel
theorem dX4_close_39 : decode cX4_close 39 = .ok (.if_icmp .ne 48, 3) := by decide +kernel
theorem dX4_close_42 : decode cX4_close 42 = .ok (.aload_n 0, 1) := by decide +kernel
theorem dX4_close_43 : decode cX4_close 43 = .ok (.iload_n 1, 1) := by decide +kernel
theorem dX4_close_44 : decode cX4_close 44 = .ok (.aload_n 0, 1) := by decide +kernel
theorem dX4_close_45 : decode cX4_close 45 = .ok (.getfield 24, 3) := by decide +kernel
theorem dX4_close_48 : decode cX4_close 48 = .ok (.iload_n 2, 1) := by decide +kernel
theorem dX4_close_49 : decode cX4_close 49 = .ok (.invokevirtual 55, 3) := by decide +kernel
theorem dX4_close_52 : decode cX4_close 52 = .ok (.invokevirtual 59, 3) := by decide +kernel
theorem dX4_close_55 : decode cX4_close 55 = .ok (.istore_n 3, 1) := by decide +kernel
theorem dX4_close_56 : decode cX4_close 56 = .ok (.aload_n 0, 1) := by decide +kernel
theorem dX4_close_57 : decode cX4_close 57 = .ok (.getfield 24, 3) := by decide +kernel
theorem dX4_close_60 : decode cX4_close 60 = .ok (.iload_n 2, 1) := by decide +kernel
theorem dX4_close_61 : decode cX4_close 61 = .ok (.iload_n 3, 1) := by decide +kernel
theorem dX4_close_62 : decode cX4_close 62 = .ok (.invokevirtual 63, 3) := by decide +kernel
theorem dX4_close_65 : decode cX4_close 65 = .ok (.aload_n 0, 1) := by decide +kernel
theorem dX4_close_66 : decode cX4_close 66 = .ok (.iload_n 2, 1) := by decide +kernel
theorem dX4_close_67 : decode cX4_close 67 = .ok (.iload_n 3, 1) := by decide +kernel
theorem dX4_close_68 : decode cX4_close 68 = .ok (.iconst (-1), 1) := by decide +kernel
theorem dX4_close_69 : decode cX4_close 69 = .ok (.if_icmp .ne 14, 3) := by decide +kernel
theorem dX4_close_72 : decode cX4_close 72 = .ok (.aload_n 0, 1) := by decide +kernel
theorem dX4_close_73 : decode cX4_close 73 = .ok (.getfield 15, 3) := by decide +kernel
theorem dX4_close_76 : decode cX4_close 76 = .ok (.iload_n 1, 1) := by decide +kernel
theorem dX4_close_77 : decode cX4_close 77 = .ok (.invokestatic 51, 3) := by decide +kernel
theorem dX4_close_80 : decode cX4_close 80 = .ok (.goto 4, 3) := by decide +kernel
theorem dX4_close_83 : decode cX4_close 83 = .ok (.iconst (-1), 1) := by decide +kernel
theorem dX4_close_84 : decode cX4_close 84 = .ok (.invokevirtual 67, 3) := by decide +kernel
theorem dX4_close_87 : decode cX4_close 87 = .ok (.iinc 2 1, 3) := by decide +kernel
theorem dX4_close_90 : decode cX4_close 90 = .ok (.goto (-71), 3) := by decide +kernel
theorem dX4_close_93 : decode cX4_close 93 = .ok (.aload_n 0, 1) := by decide +kernel
theorem dX4_close_94 : decode cX4_close 94 = .ok (.dup, 1) := by decide +kernel
theorem dX4_close_95 : decode cX4_close 95 = .ok (.getfield 28, 3) := by decide +kernel
theorem dX4_close_98 : decode cX4_close 98 = .ok (.iconst 1, 1) := by decide +kernel
theorem dX4_close_99 : decode cX4_close 99 = .ok (.isub, 1) := by decide +kernel
theorem dX4_close_100 : decode cX4_close 100 = .ok (.putfield 28, 3) := by decide +kernel
theorem dX4_close_103 : decode cX4_close 103 = .ok (.return_, 1) := by decide +kernel
theorem dX4_labelIn_0 : decode cX4_labelIn 0 = .ok (.iload_n 2, 1) := by decide +kernel
theorem dX4_labelIn_1 : decode cX4_labelIn 1 = .ok (.ifCond .lt 25, 3) := by decide +kernel
theorem dX4_labelIn_4 : decode cX4_labelIn 4 = .ok (.iload_n 2, 1) := by decide +kernel
theorem dX4_labelIn_5 : decode cX4_labelIn 5 = .ok (.bipush 20, 2) := by decide +kernel
theorem dX4_labelIn_7 : decode cX4_labelIn 7 = .ok (.if_icmp .ge 19, 3) := by decide +kernel
theorem dX4_labelIn_10 : decode cX4_labelIn 10 = .ok (.aload_n 0, 1) := by decide +kernel
theorem dX4_labelIn_11 : decode cX4_labelIn 11 = .ok (.getfield 9, 3) := by decide +kernel
theorem dX4_labelIn_14 : decode cX4_labelIn 14 = .ok (.iload_n 1, 1) := by decide +kernel
theorem dX4_labelIn_15 : decode cX4_labelIn 15 = .ok (.bipush 20, 2) := by decide +kernel
theorem dX4_labelIn_17 : decode cX4_labelIn 17 = .ok (.imul, 1) := by decide +kernel
theorem dX4_labelIn_18 : decode cX4_labelIn 18 = .ok (.iload_n 2, 1) := by decide +kernel
theorem dX4_labelIn_19 : decode cX4_labelIn 19 = .ok (.iadd, 1) := by decide +kernel
theorem dX4_labelIn_20 : decode cX4_labelIn 20 = .ok (.invokestatic 51, 3) := by decide +kernel
theorem dX4_labelIn_23 : decode cX4_labelIn 23 = .ok (.goto 4, 3) := by decide +kernel
theorem dX4_labelIn_26 : decode cX4_labelIn 26 = .ok (.iconst (-1), 1) := by decide +kernel
theorem dX4_labelIn_27 : decode cX4_labelIn 27 = .ok (.ireturn, 1) := by decide +kernel
theorem dX4_define_0 : decode cX4_define 0 = .ok (.iload_n 2, 1) := by decide +kernel
theorem dX4_define_1 : decode cX4_define 1 = .ok (.ifCond .lt 23, 3) := by decide +kernel
theorem dX4_define_4 : decode cX4_define 4 = .ok (.iload_n 2, 1) := by decide +kernel
theorem dX4_define_5 : decode cX4_define 5 = .ok (.bipush 20, 2) := by decide +kernel
theorem dX4_define_7 : decode cX4_define 7 = .ok (.if_icmp .ge 17, 3) := by decide +kernel
theorem dX4_define_10 : decode cX4_define 10 = .ok (.aload_n 0, 1) := by decide +kernel
theorem dX4_define_11 : decode cX4_define 11 = .ok (.getfield 9, 3) := by decide +kernel
theorem dX4_define_14 : decode cX4_define 14 = .ok (.iload_n 1, 1) := by decide +kernel
theorem dX4_define_15 : decode cX4_define 15 = .ok (.bipush 20, 2) := by decide +kernel
theorem dX4_define_17 : decode cX4_define 17 = .ok (.imul, 1) := by decide +kernel
theorem dX4_define_18 : decode cX4_define 18 = .ok (.iload_n 2, 1) := by decide +kernel
theorem dX4_define_19 : decode cX4_define 19 = .ok (.iadd, 1) := by decide +kernel
theorem dX4_define_20 : decode cX4_define 20 = .ok (.iload_n 3, 1) := by decide +kernel
theorem dX4_define_21 : decode cX4_define 21 = .ok (.invokestatic 70, 3) := by decide +kernel
theorem dX4_define_24 : decode cX4_define 24 = .ok (.return_, 1) := by decide +kernel
theorem dX4_setHome_0 : decode cX4_setHome 0 = .ok (.aload_n 0, 1) := by decide +kernel
theorem dX4_setHome_1 : decode cX4_setHome 1 = .ok (.getfield 21, 3) := by decide +kernel
theorem dX4_setHome_4 : decode cX4_setHome 4 = .ok (.iload_n 1, 1) := by decide +kernel
theorem dX4_setHome_5 : decode cX4_setHome 5 = .ok (.iload_n 2, 1) := by decide +kernel
theorem dX4_setHome_6 : decode cX4_setHome 6 = .ok (.invokestatic 70, 3) := by decide +kernel
theorem dX4_setHome_9 : decode cX4_setHome 9 = .ok (.return_, 1) := by decide +kernel
theorem dX5_init_0 : decode cX5_init 0 = .ok (.aload_n 0, 1) := by decide +kernel
theorem dX5_init_1 : decode cX5_init 1 = .ok (.invokespecial 3, 3) := by decide +kernel
theorem dX5_init_4 : decode cX5_init 4 = .ok (.aload_n 0, 1) := by decide +kernel
theorem dX5_init_5 : decode cX5_init 5 = .ok (.bipush 80, 2) := by decide +kernel
theorem dX5_init_7 : decode cX5_init 7 = .ok (.newarray .int, 2) := by decide +kernel
theorem dX5_init_9 : decode cX5_init 9 = .ok (.putfield 9, 3) := by decide +kernel
theorem dX5_init_12 : decode cX5_init 12 = .ok (.aload_n 0, 1) := by decide +kernel
theorem dX5_init_13 : decode cX5_init 13 = .ok (.bipush 80, 2) := by decide +kernel
theorem dX5_init_15 : decode cX5_init 15 = .ok (.newarray .int, 2) := by decide +kernel
theorem dX5_init_17 : decode cX5_init 17 = .ok (.putfield 15, 3) := by decide +kernel
theorem dX5_init_20 : decode cX5_init 20 = .ok (.aload_n 0, 1) := by decide +kernel
theorem dX5_init_21 : decode cX5_init 21 = .ok (.bipush 80, 2) := by decide +kernel
theorem dX5_init_23 : decode cX5_init 23 = .ok (.newarray .int, 2) := by decide +kernel
theorem dX5_init_25 : decode cX5_init 25 = .ok (.putfield 18, 3) := by decide +kernel
theorem dX5_init_28 : decode cX5_init 28 = .ok (.aload_n 0, 1) := by decide +kernel
theorem dX5_init_29 : decode cX5_init 29 = .ok (.bipush 80, 2) := by decide +kernel
theorem dX5_init_31 : decode cX5_init 31 = .ok (.newarray .int, 2) := by decide +kernel
theorem dX5_init_33 : decode cX5_init 33 = .ok (.putfield 21, 3) := by decide +kernel
theorem dX5_init_36 : decode cX5_init 36 = .ok (.aload_n 0, 1) := by decide +kernel
theorem dX5_init_37 : decode cX5_init 37 = .ok (.bipush 80, 2) := by decide +kernel
theorem dX5_init_39 : decode cX5_init 39 = .ok (.newarray .int, 2) := by decide +kernel
theorem dX5_init_41 : decode cX5_init 41 = .ok (.putfield 24, 3) := by decide +kernel
theorem dX5_init_44 : decode cX5_init 44 = .ok (.aload_n 0, 1) := by decide +kernel
theorem dX5_init_45 : decode cX5_init 45 = .ok (.bipush 80, 2) := by decide +kernel
theorem dX5_init_47 : decode cX5_init 47 = .ok (.newarray .int, 2) := by decide +kernel
theorem dX5_init_49 : decode cX5_init 49 = .ok (.putfield 27, 3) := by decide +kernel
theorem dX5_init_52 : decode cX5_init 52 = .ok (.aload_n 0, 1) := by decide +kernel
theorem dX5_init_53 : decode cX5_init 53 = .ok (.bipush 8, 2) := by decide +kernel
theorem dX5_init_55 : decode cX5_init 55 = .ok (.newarray .int, 2) := by decide +kernel
theorem dX5_init_57 : decode cX5_init 57 = .ok (.putfield 30, 3) := by decide +kernel
theorem dX5_init_60 : decode cX5_init 60 = .ok (.return_, 1) := by decide +kernel
theorem dX5_size_0 : decode cX5_size 0 = .ok (.aload_n 0, 1) := by decide +kernel
theorem dX5_size_1 : decode cX5_size 1 = .ok (.getfield 33, 3) := by decide +kernel
theorem dX5_size_4 : decode cX5_size 4 = .ok (.ireturn, 1) := by decide +kernel
theorem dX5_sizeOfMacros_0 : decode cX5_sizeOfMacros 0 = .ok (.aload_n 0, 1) := by decide +kernel
theorem dX5_sizeOfMacros_1 : decode cX5_sizeOfMacros 1 = .ok (.getfield 37, 3) := by decide +kernel
theorem dX5_sizeOfMacros_4 : decode cX5_sizeOfMacros 4 = .ok (.ireturn, 1) := by decide +kernel
theorem dX5_kind_0 : decode cX5_kind 0 = .ok (.aload_n 0, 1) := by decide +kernel
theorem dX5_kind_1 : decode cX5_kind 1 = .ok (.getfield 9, 3) := by decide +kernel
theorem dX5_kind_4 : decode cX5_kind 4 = .ok (.iload_n 1, 1) := by decide +kernel
theorem dX5_kind_5 : decode cX5_kind 5 = .ok (.invokestatic 40, 3) := by decide +kernel
theorem dX5_kind_8 : decode cX5_kind 8 = .ok (.ireturn, 1) := by decide +kernel
theorem dX5_first_0 : decode cX5_first 0 = .ok (.aload_n 0, 1) := by decide +kernel
theorem dX5_first_1 : decode cX5_first 1 = .ok (.getfield 15, 3) := by decide +kernel
theorem dX5_first_4 : decode cX5_first 4 = .ok (.iload_n 1, 1) := by decide +kernel
theorem dX5_first_5 : decode cX5_first 5 = .ok (.invokestatic 40, 3) := by decide +kernel
theorem dX5_first_8 : decode cX5_first 8 = .ok (.ireturn, 1) := by decide +kernel
theorem dX5_second_0 : decode cX5_second 0 = .ok (.aload_n 0, 1) := by decide +kernel
theorem dX5_second_1 : decode cX5_second 1 = .ok (.getfield 18, 3) := by decide +kernel
theorem dX5_second_4 : decode cX5_second 4 = .ok (.iload_n 1, 1) := by decide +kernel
theorem dX5_second_5 : decode cX5_second 5 = .ok (.invokestatic 40, 3) := by decide +kernel
theorem dX5_second_8 : decode cX5_second 8 = .ok (.ireturn, 1) := by decide +kernel
theorem dX5_fixed_0 : decode cX5_fixed 0 = .ok (.aload_n 0, 1) := by decide +kernel
theorem dX5_fixed_1 : decode cX5_fixed 1 = .ok (.getfield 21, 3) := by decide +kernel
theorem dX5_fixed_4 : decode cX5_fixed 4 = .ok (.iload_n 1, 1) := by decide +kernel
theorem dX5_fixed_5 : decode cX5_fixed 5 = .ok (.invokestatic 40, 3) := by decide +kernel
theorem dX5_fixed_8 : decode cX5_fixed 8 = .ok (.ireturn, 1) := by decide +kernel
theorem dX5_partner_0 : decode cX5_partner 0 = .ok (.aload_n 0, 1) := by decide +kernel
theorem dX5_partner_1 : decode cX5_partner 1 = .ok (.getfield 24, 3) := by decide +kernel
theorem dX5_partner_4 : decode cX5_partner 4 = .ok (.iload_n 1, 1) := by decide +kernel
theorem dX5_partner_5 : decode cX5_partner 5 = .ok (.invokestatic 40, 3) := by decide +kernel
theorem dX5_partner_8 : decode cX5_partner 8 = .ok (.ireturn, 1) := by decide +kernel
theorem dX5_macroLine_0 : decode cX5_macroLine 0 = .ok (.aload_n 0, 1) := by decide +kernel
theorem dX5_macroLine_1 : decode cX5_macroLine 1 = .ok (.getfield 30, 3) := by decide +kernel
theorem dX5_macroLine_4 : decode cX5_macroLine 4 = .ok (.iload_n 1, 1) := by decide +kernel
theorem dX5_macroLine_5 : decode cX5_macroLine 5 = .ok (.invokestatic 40, 3) := by decide +kernel
theorem dX5_macroLine_8 : decode cX5_macroLine 8 = .ok (.ireturn, 1) := by decide +kernel
theorem dX5_isEndedMacro_0 : decode cX5_isEndedMacro 0 = .ok (.aload_n 0, 1) := by decide +kernel
theorem dX5_isEndedMacro_1 : decode cX5_isEndedMacro 1 = .ok (.getfield 44, 3) := by decide +kernel
theorem dX5_isEndedMacro_4 : decode cX5_isEndedMacro 4 = .ok (.ifCond .eq 12, 3) := by decide +kernel
theorem dX5_isEndedMacro_7 : decode cX5_isEndedMacro 7 = .ok (.aload_n 0, 1) := by decide +kernel
theorem dX5_isEndedMacro_8 : decode cX5_isEndedMacro 8 = .ok (.getfield 37, 3) := by decide +kernel
theorem dX5_isEndedMacro_11 : decode cX5_isEndedMacro 11 = .ok (.iconst 1, 1) := by decide +kernel
theorem dX5_isEndedMacro_12 : decode cX5_isEndedMacro 12 = .ok (.isub, 1) := by decide +kernel
theorem dX5_isEndedMacro_13 : decode cX5_isEndedMacro 13 = .ok (.goto 7, 3) := by decide +kernel
theorem dX5_isEndedMacro_16 : decode cX5_isEndedMacro 16 = .ok (.aload_n 0, 1) := by decide +kernel
theorem dX5_isEndedMacro_17 : decode cX5_isEndedMacro 17 = .ok (.getfield 37, 3) := by decide +kernel
theorem dX5_isEndedMacro_20 : decode cX5_isEndedMacro 20 = .ok (.istore_n 2, 1) := by decide +kernel
theorem dX5_isEndedMacro_21 : decode cX5_isEndedMacro 21 = .ok (.iload_n 1, 1) := by decide +kernel
theorem dX5_isEndedMacro_22 : decode cX5_isEndedMacro 22 = .ok (.ifCond .lt 12, 3) := by decide +kernel
theorem dX5_isEndedMacro_25 : decode cX5_isEndedMacro 25 = .ok (.iload_n 1, 1) := by decide +kernel
theorem dX5_isEndedMacro_26 : decode cX5_isEndedMacro 26 = .ok (.iload_n 2, 1) := by decide +kernel
theorem dX5_isEndedMacro_27 : decode cX5_isEndedMacro 27 = .ok (.if_icmp .ge 7, 3) := by decide +kernel
theorem dX5_isEndedMacro_30 : decode cX5_isEndedMacro 30 = .ok (.iconst 1, 1) := by decide +kernel
theorem dX5_isEndedMacro_31 : decode cX5_isEndedMacro 31 = .ok (.goto 4, 3) := by decide +kernel
theorem dX5_isEndedMacro_34 : decode cX5_isEndedMacro 34 = .ok (.iconst 0, 1) := by decide +kernel
theorem dX5_isEndedMacro_35 : decode cX5_isEndedMacro 35 = .ok (.ireturn, 1) := by decide +kernel
theorem dX5_unfinishedLine_0 : decode cX5_unfinishedLine 0 = .ok (.aload_n 0, 1) := by decide +kernel
theorem dX5_unfinishedLine_1 : decode cX5_unfinishedLine 1 = .ok (.getfield 48, 3) := by decide +kernel
theorem dX5_unfinishedLine_4 : decode cX5_unfinishedLine 4 = .ok (.ifCond .le 17, 3) := by decide +kernel
theorem dX5_unfinishedLine_7 : decode cX5_unfinishedLine 7 = .ok (.aload_n 0, 1) := by decide +kernel
theorem dX5_unfinishedLine_8 : decode cX5_unfinishedLine 8 = .ok (.getfield 27, 3) := by decide +kernel
theorem dX5_unfinishedLine_11 : decode cX5_unfinishedLine 11 = .ok (.aload_n 0, 1) := by decide +kernel
theorem dX5_unfinishedLine_12 : decode cX5_unfinishedLine 12 = .ok (.getfield 48, 3) := by decide +kernel
theorem dX5_unfinishedLine_15 : decode cX5_unfinishedLine 15 = .ok (.iconst 1, 1) := by decide +kernel
theorem dX5_unfinishedLine_16 : decode cX5_unfinishedLine 16 = .ok (.isub, 1) := by decide +kernel
theorem dX5_unfinishedLine_17 : decode cX5_unfinishedLine 17 = .ok (.invokestatic 40, 3) := by decide +kernel
theorem dX5_unfinishedLine_20 : decode cX5_unfinishedLine 20 = .ok (.ireturn, 1) := by decide +kernel
theorem dX5_unfinishedLine_21 : decode cX5_unfinishedLine 21 = .ok (.aload_n 0, 1) := by decide +kernel
theorem dX5_unfinishedLine_22 : decode cX5_unfinishedLine 22 = .ok (.getfield 44, 3) := by decide +kernel
theorem dX5_unfinishedLine_25 : decode cX5_unfinishedLine 25 = .ok (.ifCond .eq 19, 3) := by decide +kernel
theorem dX5_unfinishedLine_28 : decode cX5_unfinishedLine 28 = .ok (.aload_n 0, 1) := by decide +kernel
theorem dX5_unfinishedLine_29 : decode cX5_unfinishedLine 29 = .ok (.getfield 30, 3) := by decide +kernel
theorem dX5_unfinishedLine_32 : decode cX5_unfinishedLine 32 = .ok (.aload_n 0, 1) := by decide +kernel
theorem dX5_unfinishedLine_33 : decode cX5_unfinishedLine 33 = .ok (.getfield 37, 3) := by decide +kernel
theorem dX5_unfinishedLine_36 : decode cX5_unfinishedLine 36 = .ok (.iconst 1, 1) := by decide +kernel
theorem dX5_unfinishedLine_37 : decode cX5_unfinishedLine 37 = .ok (.isub, 1) := by decide +kernel
theorem dX5_unfinishedLine_38 : decode cX5_unfinishedLine 38 = .ok (.invokestatic 40, 3) := by decide +kernel
theorem dX5_unfinishedLine_41 : decode cX5_unfinishedLine 41 = .ok (.goto 4, 3) := by decide +kernel
theorem dX5_unfinishedLine_44 : decode cX5_unfinishedLine 44 = .ok (.iconst (-1), 1) := by decide +kernel
theorem dX5_unfinishedLine_45 : decode cX5_unfinishedLine 45 = .ok (.ireturn, 1) := by decide +kernel
theorem dX5_feed_0 : decode cX5_feed 0 = .ok (.iload_n 1, 1) := by decide +kernel
theorem dX5_feed_1 : decode cX5_feed 1 = .ok (.invokestatic 51, 3) := by decide +kernel
theorem dX5_feed_4 : decode cX5_feed 4 = .ok (.istore 5, 2) := by decide +kernel
theorem dX5_feed_6 : decode cX5_feed 6 = .ok (.aload_n 0, 1) := by decide +kernel
theorem dX5_feed_7 : decode cX5_feed 7 = .ok (.iload_n 2, 1) := by decide +kernel
theorem dX5_feed_8 : decode cX5_feed 8 = .ok (.iload 5, 2) := by decide +kernel
theorem dX5_feed_10 : decode cX5_feed 10 = .ok (.invokevirtual 55, 3) := by decide +kernel
theorem dX5_feed_13 : decode cX5_feed 13 = .ok (.ifCond .eq 13, 3) := by decide +kernel
theorem dX5_feed_16 : decode cX5_feed 16 = .ok (.aload_n 0, 1) := by decide +kernel
theorem dX5_feed_17 : decode cX5_feed 17 = .ok (.iload_n 3, 1) := by decide +kernel
theorem dX5_feed_18 : decode cX5_feed 18 = .ok (.iload 5, 2) := by decide +kernel
theorem dX5_feed_20 : decode cX5_feed 20 = .ok (.invokevirtual 55, 3) := by decide +kernel
theorem dX5_feed_23 : decode cX5_feed 23 = .ok (.ifCond .ne 13, 3) := by decide +kernel
theorem dX5_feed_26 : decode cX5_feed 26 = .ok (.new 59, 3) := by decide +kernel
theorem dX5_feed_29 : decode cX5_feed 29 = .ok (.dup, 1) := by decide +kernel
theorem dX5_feed_30 : decode cX5_feed 30 = .ok (.ldc 61, 2) := by decide +kernel
theorem dX5_feed_32 : decode cX5_feed 32 = .ok (.invokespecial 63, 3) := by decide +kernel
theorem dX5_feed_35 : decode cX5_feed 35 = .ok (.athrow, 1) := by decide +kernel
theorem dX5_feed_36 : decode cX5_feed 36 = .ok (.aload_n 0, 1) := by decide +kernel
theorem dX5_feed_37 : decode cX5_feed 37 = .ok (.iload_n 1, 1) := by decide +kernel
theorem dX5_feed_38 : decode cX5_feed 38 = .ok (.iload_n 2, 1) := by decide +kernel
theorem dX5_feed_39 : decode cX5_feed 39 = .ok (.iload_n 3, 1) := by decide +kernel
theorem dX5_feed_40 : decode cX5_feed 40 = .ok (.iload 4, 2) := by decide +kernel
theorem dX5_feed_42 : decode cX5_feed 42 = .ok (.invokevirtual 66, 3) := by decide +kernel
theorem dX5_feed_45 : decode cX5_feed 45 = .ok (.istore 6, 2) := by decide +kernel
theorem dX5_feed_47 : decode cX5_feed 47 = .ok (.iload_n 1, 1) := by decide +kernel
theorem dX5_feed_48 : decode cX5_feed 48 = .ok (.invokestatic 70, 3) := by decide +kernel
theorem dX5_feed_51 : decode cX5_feed 51 = .ok (.ifCond .eq 26, 3) := by decide +kernel
theorem dX5_feed_54 : decode cX5_feed 54 = .ok (.aload_n 0, 1) := by decide +kernel
theorem dX5_feed_55 : decode cX5_feed 55 = .ok (.getfield 27, 3) := by decide +kernel
theorem dX5_feed_58 : decode cX5_feed 58 = .ok (.aload_n 0, 1) := by decide +kernel
theorem dX5_feed_59 : decode cX5_feed 59 = .ok (.getfield 48, 3) := by decide +kernel
theorem dX5_feed_62 : decode cX5_feed 62 = .ok (.iload 6, 2) := by decide +kernel
theorem dX5_feed_64 : decode cX5_feed 64 = .ok (.invokestatic 74, 3) := by decide +kernel
theorem dX5_feed_67 : decode cX5_feed 67 = .ok (.aload_n 0, 1) := by decide +kernel
theorem dX5_feed_68 : decode cX5_feed 68 = .ok (.dup, 1) := by decide +kernel
theorem dX5_feed_69 : decode cX5_feed 69 = .ok (.getfield 48, 3) := by decide +kernel
theorem dX5_feed_72 : decode cX5_feed 72 = .ok (.iconst 1, 1) := by decide +kernel
theorem dX5_feed_73 : decode cX5_feed 73 = .ok (.iadd, 1) := by decide +kernel
theorem dX5_feed_74 : decode cX5_feed 74 = .ok (.putfield 48, 3) := by decide +kernel
theorem dX5_feed_77 : decode cX5_feed 77 = .ok (.iload 6, 2) := by decide +kernel
theorem dX5_feed_79 : decode cX5_feed 79 = .ok (.ireturn, 1) := by decide +kernel
theorem dX5_endGroup_0 : decode cX5_endGroup 0 = .ok (.aload_n 0, 1) := by decide +kernel
theorem dX5_endGroup_1 : decode cX5_endGroup 1 = .ok (.getfield 48, 3) := by decide +kernel
theorem dX5_endGroup_4 : decode cX5_endGroup 4 = .ok (.ifCond .ne 13, 3) := by decide +kernel
theorem dX5_endGroup_7 : decode cX5_endGroup 7 = .ok (.new 78, 3) := by decide +kernel
theorem dX5_endGroup_10 : decode cX5_endGroup 10 = .ok (.dup, 1) := by decide +kernel
theorem dX5_endGroup_11 : decode cX5_endGroup 11 = .ok (.ldc 80, 2) := by decide +kernel
theorem dX5_endGroup_13 : decode cX5_endGroup 13 = .ok (.invokespecial 82, 3) := by decide +kernel
theorem dX5_endGroup_16 : decode cX5_endGroup 16 = .ok (.athrow, 1) := by decide +kernel
theorem dX5_endGroup_17 : decode cX5_endGroup 17 = .ok (.aload_n 0, 1) := by decide +kernel
theorem dX5_endGroup_18 : decode cX5_endGroup 18 = .ok (.bipush 69, 2) := by decide +kernel
theorem dX5_endGroup_20 : decode cX5_endGroup 20 = .ok (.iconst 0, 1) := by decide +kernel
theorem dX5_endGroup_21 : decode cX5_endGroup 21 = .ok (.iconst 0, 1) := by decide +kernel
theorem dX5_endGroup_22 : decode cX5_endGroup 22 = .ok (.iconst 0, 1) := by decide +kernel
theorem dX5_endGroup_23 : decode cX5_endGroup 23 = .ok (.invokevirtual 66, 3) := by decide +kernel
theorem dX5_endGroup_26 : decode cX5_endGroup 26 = .ok (.istore_n 1, 1) := by decide +kernel
theorem dX5_endGroup_27 : decode cX5_endGroup 27 = .ok (.aload_n 0, 1) := by decide +kernel
theorem dX5_endGroup_28 : decode cX5_endGroup 28 = .ok (.aload_n 0, 1) := by decide +kernel
theorem dX5_endGroup_29 : decode cX5_endGroup 29 = .ok (.invokevirtual 83, 3) := by decide +kernel
theorem dX5_endGroup_32 : decode cX5_endGroup 32 = .ok (.iload_n 1, 1) := by decide +kernel
theorem dX5_endGroup_33 : decode cX5_endGroup 33 = .ok (.invokevirtual 87, 3) := by decide +kernel
theorem dX5_endGroup_36 : decode cX5_endGroup 36 = .ok (.aload_n 0, 1) := by decide +kernel
theorem dX5_endGroup_37 : decode cX5_endGroup 37 = .ok (.dup, 1) := by decide +kernel
theorem dX5_endGroup_38 : decode cX5_endGroup 38 = .ok (.getfield 48, 3) := by decide +kernel
theorem dX5_endGroup_41 : decode cX5_endGroup 41 = .ok (.iconst 1, 1) := by decide +kernel
theorem dX5_endGroup_42 : decode cX5_endGroup 42 = .ok (.isub, 1) := by decide +kernel
theorem dX5_endGroup_43 : decode cX5_endGroup 43 = .ok (.putfield 48, 3) := by decide +kernel
theorem dX5_endGroup_46 : decode cX5_endGroup 46 = .ok (.iload_n 1, 1) := by decide +kernel
theorem dX5_endGroup_47 : decode cX5_endGroup 47 = .ok (.ireturn, 1) := by decide +kernel
theorem dX5_beginMacro_0 : decode cX5_beginMacro 0 = .ok (.aload_n 0, 1) := by decide +kernel
theorem dX5_beginMacro_1 : decode cX5_beginMacro 1 = .ok (.invokevirtual 83, 3) := by decide +kernel
theorem dX5_beginMacro_4 : decode cX5_beginMacro 4 = .ok (.iconst (-1), 1) := by decide +kernel
theorem dX5_beginMacro_5 : decode cX5_beginMacro 5 = .ok (.if_icmp .eq 13, 3) := by decide +kernel
theorem dX5_beginMacro_8 : decode cX5_beginMacro 8 = .ok (.new 78, 3) := by decide +kernel
theorem dX5_beginMacro_11 : decode cX5_beginMacro 11 = .ok (.dup, 1) := by decide +kernel
theorem dX5_beginMacro_12 : decode cX5_beginMacro 12 = .ok (.ldc 91, 2) := by decide +kernel
theorem dX5_beginMacro_14 : decode cX5_beginMacro 14 = .ok (.invokespecial 82, 3) := by decide +kernel
theorem dX5_beginMacro_17 : decode cX5_beginMacro 17 = .ok (.athrow, 1) := by decide +kernel
theorem dX5_beginMacro_18 : decode cX5_beginMacro 18 = .ok (.aload_n 0, 1) := by decide +kernel
theorem dX5_beginMacro_19 : decode cX5_beginMacro 19 = .ok (.getfield 37, 3) := by decide +kernel
theorem dX5_beginMacro_22 : decode cX5_beginMacro 22 = .ok (.bipush 8, 2) := by decide +kernel
theorem dX5_beginMacro_24 : decode cX5_beginMacro 24 = .ok (.if_icmp .lt 13, 3) := by decide +kernel
theorem dX5_beginMacro_27 : decode cX5_beginMacro 27 = .ok (.new 93, 3) := by decide +kernel
theorem dX5_beginMacro_30 : decode cX5_beginMacro 30 = .ok (.dup, 1) := by decide +kernel
theorem dX5_beginMacro_31 : decode cX5_beginMacro 31 = .ok (.ldc 95, 2) := by decide +kernel
theorem dX5_beginMacro_33 : decode cX5_beginMacro 33 = .ok (.invokespecial 97, 3) := by decide +kernel
theorem dX5_beginMacro_36 : decode cX5_beginMacro 36 = .ok (.athrow, 1) := by decide +kernel
theorem dX5_beginMacro_37 : decode cX5_beginMacro 37 = .ok (.aload_n 0, 1) := by decide +kernel
theorem dX5_beginMacro_38 : decode cX5_beginMacro 38 = .ok (.bipush 77, 2) := by decide +kernel
theorem dX5_beginMacro_40 : decode cX5_beginMacro 40 = .ok (.iconst 0, 1) := by decide +kernel
theorem dX5_beginMacro_41 : decode cX5_beginMacro 41 = .ok (.iconst 0, 1) := by decide +kernel
theorem dX5_beginMacro_42 : decode cX5_beginMacro 42 = .ok (.iconst 0, 1) := by decide +kernel
theorem dX5_beginMacro_43 : decode cX5_beginMacro 43 = .ok (.invokevirtual 66, 3) := by decide +kernel
theorem dX5_beginMacro_46 : decode cX5_beginMacro 46 = .ok (.istore_n 1, 1) := by decide +kernel
theorem dX5_beginMacro_47 : decode cX5_beginMacro 47 = .ok (.aload_n 0, 1) := by decide +kernel
theorem dX5_beginMacro_48 : decode cX5_beginMacro 48 = .ok (.getfield 30, 3) := by decide +kernel
theorem dX5_beginMacro_51 : decode cX5_beginMacro 51 = .ok (.aload_n 0, 1) := by decide +kernel
theorem dX5_beginMacro_52 : decode cX5_beginMacro 52 = .ok (.getfield 37, 3) := by decide +kernel
theorem dX5_beginMacro_55 : decode cX5_beginMacro 55 = .ok (.iload_n 1, 1) := by decide +kernel
theorem dX5_beginMacro_56 : decode cX5_beginMacro 56 = .ok (.invokestatic 74, 3) := by decide +kernel
theorem dX5_beginMacro_59 : decode cX5_beginMacro 59 = .ok (.aload_n 0, 1) := by decide +kernel
theorem dX5_beginMacro_60 : decode cX5_beginMacro 60 = .ok (.dup, 1) := by decide +kernel
theorem dX5_beginMacro_61 : decode cX5_beginMacro 61 = .ok (.getfield 37, 3) := by decide +kernel
theorem dX5_beginMacro_64 : decode cX5_beginMacro 64 = .ok (.iconst 1, 1) := by decide +kernel
theorem dX5_beginMacro_65 : decode cX5_beginMacro 65 = .ok (.iadd, 1) := by decide +kernel
theorem dX5_beginMacro_66 : decode cX5_beginMacro 66 = .ok (.putfield 37, 3) := by decide +kernel
theorem dX5_beginMacro_69 : decode cX5_beginMacro 69 = .ok (.aload_n 0, 1) := by decide +kernel
theorem dX5_beginMacro_70 : decode cX5_beginMacro 70 = .ok (.iconst 1, 1) := by decide +kernel
theorem dX5_beginMacro_71 : decode cX5_beginMacro 71 = .ok (.putfield 44, 3) := by decide +kernel
theorem dX5_beginMacro_74 : decode cX5_beginMacro 74 = .ok (.aload_n 0, 1) := by decide +kernel
theorem dX5_beginMacro_75 : decode cX5_beginMacro 75 = .ok (.getfield 37, 3) := by decide +kernel
theorem dX5_beginMacro_78 : decode cX5_beginMacro 78 = .ok (.iconst 1, 1) := by decide +kernel
theorem dX5_beginMacro_79 : decode cX5_beginMacro 79 = .ok (.isub, 1) := by decide +kernel
theorem dX5_beginMacro_80 : decode cX5_beginMacro 80 = .ok (.ireturn, 1) := by decide +kernel
theorem dX5_finishMacro_0 : decode cX5_finishMacro 0 = .ok (.aload_n 0, 1) := by decide +kernel
theorem dX5_finishMacro_1 : decode cX5_finishMacro 1 = .ok (.getfield 44, 3) := by decide +kernel
theorem dX5_finishMacro_4 : decode cX5_finishMacro 4 = .ok (.ifCond .eq 10, 3) := by decide +kernel
theorem dX5_finishMacro_7 : decode cX5_finishMacro 7 = .ok (.aload_n 0, 1) := by decide +kernel
theorem dX5_finishMacro_8 : decode cX5_finishMacro 8 = .ok (.getfield 48, 3) := by decide +kernel
theorem dX5_finishMacro_11 : decode cX5_finishMacro 11 = .ok (.ifCond .le 13, 3) := by decide +kernel
theorem dX5_finishMacro_14 : decode cX5_finishMacro 14 = .ok (.new 78, 3) := by decide +kernel
theorem dX5_finishMacro_17 : decode cX5_finishMacro 17 = .ok (.dup, 1) := by decide +kernel
theorem dX5_finishMacro_18 : decode cX5_finishMacro 18 = .ok (.ldc 98, 2) := by decide +kernel
theorem dX5_finishMacro_20 : decode cX5_finishMacro 20 = .ok (.invokespecial 82, 3) := by decide +kernel
theorem dX5_finishMacro_23 : decode cX5_finishMacro 23 = .ok (.athrow, 1) := by decide +kernel
theorem dX5_finishMacro_24 : decode cX5_finishMacro 24 = .ok (.aload_n 0, 1) := by decide +kernel
theorem dX5_finishMacro_25 : decode cX5_finishMacro 25 = .ok (.bipush 78, 2) := by decide +kernel
theorem dX5_finishMacro_27 : decode cX5_finishMacro 27 = .ok (.iconst 0, 1) := by decide +kernel
theorem dX5_finishMacro_28 : decode cX5_finishMacro 28 = .ok (.iconst 0, 1) := by decide +kernel
theorem dX5_finishMacro_29 : decode cX5_finishMacro 29 = .ok (.iconst 0, 1) := by decide +kernel
theorem dX5_finishMacro_30 : decode cX5_finishMacro 30 = .ok (.invokevirtual 66, 3) := by decide +kernel
theorem dX5_finishMacro_33 : decode cX5_finishMacro 33 = .ok (.istore_n 1, 1) := by decide +kernel
theorem dX5_finishMacro_34 : decode cX5_finishMacro 34 = .ok (.aload_n 0, 1) := by decide +kernel
theorem dX5_finishMacro_35 : decode cX5_finishMacro 35 = .ok (.aload_n 0, 1) := by decide +kernel
theorem dX5_finishMacro_36 : decode cX5_finishMacro 36 = .ok (.invokevirtual 83, 3) := by decide +kernel
theorem dX5_finishMacro_39 : decode cX5_finishMacro 39 = .ok (.iload_n 1, 1) := by decide +kernel
theorem dX5_finishMacro_40 : decode cX5_finishMacro 40 = .ok (.invokevirtual 87, 3) := by decide +kernel
theorem dX5_finishMacro_43 : decode cX5_finishMacro 43 = .ok (.aload_n 0, 1) := by decide +kernel
theorem dX5_finishMacro_44 : decode cX5_finishMacro 44 = .ok (.iconst 0, 1) := by decide +kernel
theorem dX5_finishMacro_45 : decode cX5_finishMacro 45 = .ok (.putfield 44, 3) := by decide +kernel
theorem dX5_finishMacro_48 : decode cX5_finishMacro 48 = .ok (.aload_n 0, 1) := by decide +kernel
theorem dX5_finishMacro_49 : decode cX5_finishMacro 49 = .ok (.getfield 37, 3) := by decide +kernel
theorem dX5_finishMacro_52 : decode cX5_finishMacro 52 = .ok (.iconst 1, 1) := by decide +kernel
theorem dX5_finishMacro_53 : decode cX5_finishMacro 53 = .ok (.isub, 1) := by decide +kernel
theorem dX5_finishMacro_54 : decode cX5_finishMacro 54 = .ok (.ireturn, 1) := by decide +kernel
theorem dX5_removeAll_0 : decode cX5_removeAll 0 = .ok (.aload_n 0, 1) := by decide +kernel
theorem dX5_removeAll_1 : decode cX5_removeAll 1 = .ok (.getfield 33, 3) := by decide +kernel
theorem dX5_removeAll_4 : decode cX5_removeAll 4 = .ok (.istore_n 1, 1) := by decide +kernel
theorem dX5_removeAll_5 : decode cX5_removeAll 5 = .ok (.aload_n 0, 1) := by decide +kernel
theorem dX5_removeAll_6 : decode cX5_removeAll 6 = .ok (.iconst 0, 1) := by decide +kernel
theorem dX5_removeAll_7 : decode cX5_removeAll 7 = .ok (.putfield 33, 3) := by decide +kernel
theorem dX5_removeAll_10 : decode cX5_removeAll 10 = .ok (.aload_n 0, 1) := by decide +kernel
theorem dX5_removeAll_11 : decode cX5_removeAll 11 = .ok (.iconst 0, 1) := by decide +kernel
theorem dX5_removeAll_12 : decode cX5_removeAll 12 = .ok (.putfield 37, 3) := by decide +kernel
theorem dX5_removeAll_15 : decode cX5_removeAll 15 = .ok (.aload_n 0, 1) := by decide +kernel
theorem dX5_removeAll_16 : decode cX5_removeAll 16 = .ok (.iconst 0, 1) := by decide +kernel
theorem dX5_removeAll_17 : decode cX5_removeAll 17 = .ok (.putfield 48, 3) := by decide +kernel
theorem dX5_removeAll_20 : decode cX5_removeAll 20 = .ok (.aload_n 0, 1) := by decide +kernel
theorem dX5_removeAll_21 : decode cX5_removeAll 21 = .ok (.iconst 0, 1) := by decide +kernel
theorem dX5_removeAll_22 : decode cX5_removeAll 22 = .ok (.putfield 44, 3) := by decide +kernel
theorem dX5_removeAll_25 : decode cX5_removeAll 25 = .ok (.iload_n 1, 1) := by decide +kernel
theorem dX5_removeAll_26 : decode cX5_removeAll 26 = .ok (.ireturn, 1) := by decide +kernel
theorem dX5_rounds_0 : decode cX5_rounds 0 = .ok (.aload_n 0, 1) := by decide +kernel
theorem dX5_rounds_1 : decode cX5_rounds 1 = .ok (.iload_n 1, 1) := by decide +kernel
theorem dX5_rounds_2 : decode cX5_rounds 2 = .ok (.invokevirtual 100, 3) := by decide +kernel
theorem dX5_rounds_5 : decode cX5_rounds 5 = .ok (.iload_n 2, 1) := by decide +kernel
theorem dX5_rounds_6 : decode cX5_rounds 6 = .ok (.iload_n 3, 1) := by decide +kernel
theorem dX5_rounds_7 : decode cX5_rounds 7 = .ok (.invokestatic 103, 3) := by decide +kernel
theorem dX5_rounds_10 : decode cX5_rounds 10 = .ok (.istore 4, 2) := by decide +kernel
theorem dX5_rounds_12 : decode cX5_rounds 12 = .ok (.aload_n 0, 1) := by decide +kernel
theorem dX5_rounds_13 : decode cX5_rounds 13 = .ok (.iload_n 1, 1) := by decide +kernel
theorem dX5_rounds_14 : decode cX5_rounds 14 = .ok (.invokevirtual 107, 3) := by decide +kernel
theorem dX5_rounds_17 : decode cX5_rounds 17 = .ok (.iload_n 2, 1) := by decide +kernel
theorem dX5_rounds_18 : decode cX5_rounds 18 = .ok (.iload_n 3, 1) := by decide +kernel
theorem dX5_rounds_19 : decode cX5_rounds 19 = .ok (.invokestatic 103, 3) := by decide +kernel
theorem dX5_rounds_22 : decode cX5_rounds 22 = .ok (.istore 5, 2) := by decide +kernel
theorem dX5_rounds_24 : decode cX5_rounds 24 = .ok (.aload_n 0, 1) := by decide +kernel
theorem dX5_rounds_25 : decode cX5_rounds 25 = .ok (.iload_n 1, 1) := by decide +kernel
theorem dX5_rounds_26 : decode cX5_rounds 26 = .ok (.invokevirtual 110, 3) := by decide +kernel
theorem dX5_rounds_29 : decode cX5_rounds 29 = .ok (.lookupswitch 43 #[(76, 27), (87, 30)], 27) := by decide +kernel
theorem dX5_rounds_56 : decode cX5_rounds 56 = .ok (.iload 4, 2) := by decide +kernel
theorem dX5_rounds_58 : decode cX5_rounds 58 = .ok (.ireturn, 1) := by decide +kernel
theorem dX5_rounds_59 : decode cX5_rounds 59 = .ok (.iload 4, 2) := by decide +kernel
theorem dX5_rounds_61 : decode cX5_rounds 61 = .ok (.iload 5, 2) := by decide +kernel
theorem dX5_rounds_63 : decode cX5_rounds 63 = .ok (.if_icmp .ne 7, 3) := by decide +kernel
theorem dX5_rounds_66 : decode cX5_rounds 66 = .ok (.iconst 1, 1) := by decide +kernel
theorem dX5_rounds_67 : decode cX5_rounds 67 = .ok (.goto 4, 3) := by decide +kernel
theorem dX5_rounds_70 : decode cX5_rounds 70 = .ok (.iconst 0, 1) := by decide +kernel
theorem dX5_rounds_71 : decode cX5_rounds 71 = .ok (.ireturn, 1) := by decide +kernel
theorem dX5_rounds_72 : decode cX5_rounds 72 = .ok (.iconst 1, 1) := by decide +kernel
theorem dX5_rounds_73 : decode cX5_rounds 73 = .ok (.ireturn, 1) := by decide +kernel
theorem dX5_isOperand_0 : decode cX5_isOperand 0 = .ok (.iload_n 1, 1) := by decide +kernel
theorem dX5_isOperand_1 : decode cX5_isOperand 1 = .ok (.ifCond .lt 8, 3) := by decide +kernel
theorem dX5_isOperand_4 : decode cX5_isOperand 4 = .ok (.iload_n 1, 1) := by decide +kernel
theorem dX5_isOperand_5 : decode cX5_isOperand 5 = .ok (.iload_n 2, 1) := by decide +kernel
theorem dX5_isOperand_6 : decode cX5_isOperand 6 = .ok (.if_icmp .le 17, 3) := by decide +kernel
theorem dX5_isOperand_9 : decode cX5_isOperand 9 = .ok (.aload_n 0, 1) := by decide +kernel
theorem dX5_isOperand_10 : decode cX5_isOperand 10 = .ok (.getfield 44, 3) := by decide +kernel
theorem dX5_isOperand_13 : decode cX5_isOperand 13 = .ok (.ifCond .eq 14, 3) := by decide +kernel
theorem dX5_isOperand_16 : decode cX5_isOperand 16 = .ok (.iload_n 1, 1) := by decide +kernel
theorem dX5_isOperand_17 : decode cX5_isOperand 17 = .ok (.invokestatic 113, 3) := by decide +kernel
theorem dX5_isOperand_20 : decode cX5_isOperand 20 = .ok (.ifCond .eq 7, 3) := by decide +kernel
theorem dX5_isOperand_23 : decode cX5_isOperand 23 = .ok (.iconst 1, 1) := by decide +kernel
theorem dX5_isOperand_24 : decode cX5_isOperand 24 = .ok (.goto 4, 3) := by decide +kernel
theorem dX5_isOperand_27 : decode cX5_isOperand 27 = .ok (.iconst 0, 1) := by decide +kernel
theorem dX5_isOperand_28 : decode cX5_isOperand 28 = .ok (.ireturn, 1) := by decide +kernel
theorem dX5_append_0 : decode cX5_append 0 = .ok (.aload_n 0, 1) := by decide +kernel
theorem dX5_append_1 : decode cX5_append 1 = .ok (.getfield 33, 3) := by decide +kernel
theorem dX5_append_4 : decode cX5_append 4 = .ok (.bipush 80, 2) := by decide +kernel
theorem dX5_append_6 : decode cX5_append 6 = .ok (.if_icmp .lt 13, 3) := by decide +kernel
theorem dX5_append_9 : decode cX5_append 9 = .ok (.new 93, 3) := by decide +kernel
theorem dX5_append_12 : decode cX5_append 12 = .ok (.dup, 1) := by decide +kernel
theorem dX5_append_13 : decode cX5_append 13 = .ok (.ldc 116, 2) := by decide +kernel
theorem dX5_append_15 : decode cX5_append 15 = .ok (.invokespecial 97, 3) := by decide +kernel
theorem dX5_append_18 : decode cX5_append 18 = .ok (.athrow, 1) := by decide +kernel
theorem dX5_append_19 : decode cX5_append 19 = .ok (.aload_n 0, 1) := by decide +kernel
theorem dX5_append_20 : decode cX5_append 20 = .ok (.getfield 33, 3) := by decide +kernel
theorem dX5_append_23 : decode cX5_append 23 = .ok (.istore 5, 2) := by decide +kernel
theorem dX5_append_25 : decode cX5_append 25 = .ok (.aload_n 0, 1) := by decide +kernel
theorem dX5_append_26 : decode cX5_append 26 = .ok (.getfield 9, 3) := by decide +kernel
theorem dX5_append_29 : decode cX5_append 29 = .ok (.iload 5, 2) := by decide +kernel
theorem dX5_append_31 : decode cX5_append 31 = .ok (.iload_n 1, 1) := by decide +kernel
theorem dX5_append_32 : decode cX5_append 32 = .ok (.iastore, 1) := by decide +kernel
theorem dX5_append_33 : decode cX5_append 33 = .ok (.aload_n 0, 1) := by decide +kernel
theorem dX5_append_34 : decode cX5_append 34 = .ok (.getfield 15, 3) := by decide +kernel
theorem dX5_append_37 : decode cX5_append 37 = .ok (.iload 5, 2) := by decide +kernel
theorem dX5_append_39 : decode cX5_append 39 = .ok (.iload_n 2, 1) := by decide +kernel
theorem dX5_append_40 : decode cX5_append 40 = .ok (.iastore, 1) := by decide +kernel
theorem dX5_append_41 : decode cX5_append 41 = .ok (.aload_n 0, 1) := by decide +kernel
theorem dX5_append_42 : decode cX5_append 42 = .ok (.getfield 18, 3) := by decide +kernel
theorem dX5_append_45 : decode cX5_append 45 = .ok (.iload 5, 2) := by decide +kernel
theorem dX5_append_47 : decode cX5_append 47 = .ok (.iload_n 3, 1) := by decide +kernel
theorem dX5_append_48 : decode cX5_append 48 = .ok (.iastore, 1) := by decide +kernel
theorem dX5_append_49 : decode cX5_append 49 = .ok (.aload_n 0, 1) := by decide +kernel
theorem dX5_append_50 : decode cX5_append 50 = .ok (.getfield 21, 3) := by decide +kernel
theorem dX5_append_53 : decode cX5_append 53 = .ok (.iload 5, 2) := by decide +kernel
theorem dX5_append_55 : decode cX5_append 55 = .ok (.iload 4, 2) := by decide +kernel
theorem dX5_append_57 : decode cX5_append 57 = .ok (.iastore, 1) := by decide +kernel
theorem dX5_append_58 : decode cX5_append 58 = .ok (.aload_n 0, 1) := by decide +kernel
theorem dX5_append_59 : decode cX5_append 59 = .ok (.getfield 24, 3) := by decide +kernel
theorem dX5_append_62 : decode cX5_append 62 = .ok (.iload 5, 2) := by decide +kernel
theorem dX5_append_64 : decode cX5_append 64 = .ok (.iload 5, 2) := by decide +kernel
theorem dX5_append_66 : decode cX5_append 66 = .ok (.iastore, 1) := by decide +kernel
theorem dX5_append_67 : decode cX5_append 67 = .ok (.aload_n 0, 1) := by decide +kernel
theorem dX5_append_68 : decode cX5_append 68 = .ok (.dup, 1) := by decide +kernel
theorem dX5_append_69 : decode cX5_append 69 = .ok (.getfield 33, 3) := by decide +kernel
theorem dX5_append_72 : decode cX5_append 72 = .ok (.iconst 1, 1) := by decide +kernel
theorem dX5_append_73 : decode cX5_append 73 = .ok (.iadd, 1) := by decide +kernel
theorem dX5_append_74 : decode cX5_append 74 = .ok (.putfield 33, 3) := by decide +kernel
theorem dX5_append_77 : decode cX5_append 77 = .ok (.iload 5, 2) := by decide +kernel
theorem dX5_append_79 : decode cX5_append 79 = .ok (.ireturn, 1) := by decide +kernel
theorem dX5_pair_0 : decode cX5_pair 0 = .ok (.aload_n 0, 1) := by decide +kernel
theorem dX5_pair_1 : decode cX5_pair 1 = .ok (.getfield 24, 3) := by decide +kernel
theorem dX5_pair_4 : decode cX5_pair 4 = .ok (.iload_n 1, 1) := by decide +kernel
theorem dX5_pair_5 : decode cX5_pair 5 = .ok (.iload_n 2, 1) := by decide +kernel
theorem dX5_pair_6 : decode cX5_pair 6 = .ok (.invokestatic 74, 3) := by decide +kernel
theorem dX5_pair_9 : decode cX5_pair 9 = .ok (.aload_n 0, 1) := by decide +kernel
theorem dX5_pair_10 : decode cX5_pair 10 = .ok (.getfield 24, 3) := by decide +kernel
theorem dX5_pair_13 : decode cX5_pair 13 = .ok (.iload_n 2, 1) := by decide +kernel
theorem dX5_pair_14 : decode cX5_pair 14 = .ok (.iload_n 1, 1) := by decide +kernel
theorem dX5_pair_15 : decode cX5_pair 15 = .ok (.invokestatic 74, 3) := by decide +kernel
theorem dX5_pair_18 : decode cX5_pair 18 = .ok (.return_, 1) := by decide +kernel
theorem dX6_init_0 : decode cX6_init 0 = .ok (.aload_n 0, 1) := by decide +kernel
theorem dX6_init_1 : decode cX6_init 1 = .ok (.invokespecial 3, 3) := by decide +kernel
theorem dX6_init_4 : decode cX6_init 4 = .ok (.aload_n 0, 1) := by decide +kernel
theorem dX6_init_5 : decode cX6_init 5 = .ok (.new 9, 3) := by decide +kernel
theorem dX6_init_8 : decode cX6_init 8 = .ok (.dup, 1) := by decide +kernel
theorem dX6_init_9 : decode cX6_init 9 = .ok (.invokespecial 11, 3) := by decide +kernel
theorem dX6_init_12 : decode cX6_init 12 = .ok (.putfield 12, 3) := by decide +kernel
theorem dX6_init_15 : decode cX6_init 15 = .ok (.aload_n 0, 1) := by decide +kernel
theorem dX6_init_16 : decode cX6_init 16 = .ok (.new 16, 3) := by decide +kernel
theorem dX6_init_19 : decode cX6_init 19 = .ok (.dup, 1) := by decide +kernel
theorem dX6_init_20 : decode cX6_init 20 = .ok (.invokespecial 18, 3) := by decide +kernel
theorem dX6_init_23 : decode cX6_init 23 = .ok (.putfield 19, 3) := by decide +kernel
theorem dX6_init_26 : decode cX6_init 26 = .ok (.aload_n 0, 1) := by decide +kernel
theorem dX6_init_27 : decode cX6_init 27 = .ok (.new 23, 3) := by decide +kernel
theorem dX6_init_30 : decode cX6_init 30 = .ok (.dup, 1) := by decide +kernel
theorem dX6_init_31 : decode cX6_init 31 = .ok (.aload_n 0, 1) := by decide +kernel
theorem dX6_init_32 : decode cX6_init 32 = .ok (.getfield 19, 3) := by decide +kernel
theorem dX6_init_35 : decode cX6_init 35 = .ok (.invokespecial 25, 3) := by decide +kernel
theorem dX6_init_38 : decode cX6_init 38 = .ok (.putfield 28, 3) := by decide +kernel
theorem dX6_init_41 : decode cX6_init 41 = .ok (.aload_n 0, 1) := by decide +kernel
theorem dX6_init_42 : decode cX6_init 42 = .ok (.new 32, 3) := by decide +kernel
theorem dX6_init_45 : decode cX6_init 45 = .ok (.dup, 1) := by decide +kernel
theorem dX6_init_46 : decode cX6_init 46 = .ok (.aload_n 0, 1) := by decide +kernel
theorem dX6_init_47 : decode cX6_init 47 = .ok (.getfield 12, 3) := by decide +kernel
theorem dX6_init_50 : decode cX6_init 50 = .ok (.aload_n 0, 1) := by decide +kernel
theorem dX6_init_51 : decode cX6_init 51 = .ok (.getfield 19, 3) := by decide +kernel
theorem dX6_init_54 : decode cX6_init 54 = .ok (.aload_n 0, 1) := by decide +kernel
theorem dX6_init_55 : decode cX6_init 55 = .ok (.getfield 28, 3) := by decide +kernel
theorem dX6_init_58 : decode cX6_init 58 = .ok (.invokespecial 34, 3) := by decide +kernel
theorem dX6_init_61 : decode cX6_init 61 = .ok (.putfield 37, 3) := by decide +kernel
theorem dX6_init_64 : decode cX6_init 64 = .ok (.aload_n 0, 1) := by decide +kernel
theorem dX6_init_65 : decode cX6_init 65 = .ok (.new 41, 3) := by decide +kernel
theorem dX6_init_68 : decode cX6_init 68 = .ok (.dup, 1) := by decide +kernel
theorem dX6_init_69 : decode cX6_init 69 = .ok (.invokespecial 43, 3) := by decide +kernel
theorem dX6_init_72 : decode cX6_init 72 = .ok (.putfield 44, 3) := by decide +kernel
theorem dX6_init_75 : decode cX6_init 75 = .ok (.aload_n 0, 1) := by decide +kernel
theorem dX6_init_76 : decode cX6_init 76 = .ok (.new 48, 3) := by decide +kernel
theorem dX6_init_79 : decode cX6_init 79 = .ok (.dup, 1) := by decide +kernel
theorem dX6_init_80 : decode cX6_init 80 = .ok (.aload_n 0, 1) := by decide +kernel
theorem dX6_init_81 : decode cX6_init 81 = .ok (.getfield 12, 3) := by decide +kernel
theorem dX6_init_84 : decode cX6_init 84 = .ok (.invokespecial 50, 3) := by decide +kernel
theorem dX6_init_87 : decode cX6_init 87 = .ok (.putfield 53, 3) := by decide +kernel
theorem dX6_init_90 : decode cX6_init 90 = .ok (.return_, 1) := by decide +kernel
theorem dX6_label_0 : decode cX6_label 0 = .ok (.aload_n 0, 1) := by decide +kernel
theorem dX6_label_1 : decode cX6_label 1 = .ok (.getfield 12, 3) := by decide +kernel
theorem dX6_label_4 : decode cX6_label 4 = .ok (.bipush 108, 2) := by decide +kernel
theorem dX6_label_6 : decode cX6_label 6 = .ok (.iload_n 1, 1) := by decide +kernel
theorem dX6_label_7 : decode cX6_label 7 = .ok (.iconst 0, 1) := by decide +kernel
theorem dX6_label_8 : decode cX6_label 8 = .ok (.iconst 0, 1) := by decide +kernel
theorem dX6_label_9 : decode cX6_label 9 = .ok (.invokevirtual 57, 3) := by decide +kernel
theorem dX6_label_12 : decode cX6_label 12 = .ok (.ireturn, 1) := by decide +kernel
theorem dX6_word_0 : decode cX6_word 0 = .ok (.aload_n 0, 1) := by decide +kernel
theorem dX6_word_1 : decode cX6_word 1 = .ok (.getfield 12, 3) := by decide +kernel
theorem dX6_word_4 : decode cX6_word 4 = .ok (.bipush 119, 2) := by decide +kernel
theorem dX6_word_6 : decode cX6_word 6 = .ok (.iload_n 1, 1) := by decide +kernel
theorem dX6_word_7 : decode cX6_word 7 = .ok (.iconst 0, 1) := by decide +kernel
theorem dX6_word_8 : decode cX6_word 8 = .ok (.iconst 0, 1) := by decide +kernel
theorem dX6_word_9 : decode cX6_word 9 = .ok (.invokevirtual 57, 3) := by decide +kernel
theorem dX6_word_12 : decode cX6_word 12 = .ok (.ireturn, 1) := by decide +kernel
theorem dX6_operation_0 : decode cX6_operation 0 = .ok (.iload_n 1, 1) := by decide +kernel
theorem dX6_operation_1 : decode cX6_operation 1 = .ok (.bipush 10, 2) := by decide +kernel
theorem dX6_operation_3 : decode cX6_operation 3 = .ok (.if_icmp .lt 9, 3) := by decide +kernel
theorem dX6_operation_6 : decode cX6_operation 6 = .ok (.iload_n 1, 1) := by decide +kernel
theorem dX6_operation_7 : decode cX6_operation 7 = .ok (.bipush 99, 2) := by decide +kernel
theorem dX6_operation_9 : decode cX6_operation 9 = .ok (.if_icmp .le 13, 3) := by decide +kernel
theorem dX6_operation_12 : decode cX6_operation 12 = .ok (.new 61, 3) := by decide +kernel
theorem dX6_operation_15 : decode cX6_operation 15 = .ok (.dup, 1) := by decide +kernel
theorem dX6_operation_16 : decode cX6_operation 16 = .ok (.ldc 63, 2) := by decide +kernel
theorem dX6_operation_18 : decode cX6_operation 18 = .ok (.invokespecial 65, 3) := by decide +kernel
theorem dX6_operation_21 : decode cX6_operation 21 = .ok (.athrow, 1) := by decide +kernel
theorem dX6_operation_22 : decode cX6_operation 22 = .ok (.aload_n 0, 1) := by decide +kernel
theorem dX6_operation_23 : decode cX6_operation 23 = .ok (.getfield 12, 3) := by decide +kernel
theorem dX6_operation_26 : decode cX6_operation 26 = .ok (.bipush 111, 2) := by decide +kernel
theorem dX6_operation_28 : decode cX6_operation 28 = .ok (.iload_n 2, 1) := by decide +kernel
theorem dX6_operation_29 : decode cX6_operation 29 = .ok (.iconst 0, 1) := by decide +kernel
theorem dX6_operation_30 : decode cX6_operation 30 = .ok (.iload_n 1, 1) := by decide +kernel
theorem dX6_operation_31 : decode cX6_operation 31 = .ok (.invokevirtual 57, 3) := by decide +kernel
theorem dX6_operation_34 : decode cX6_operation 34 = .ok (.ireturn, 1) := by decide +kernel
theorem dX6_jump_0 : decode cX6_jump 0 = .ok (.aload_n 0, 1) := by decide +kernel
theorem dX6_jump_1 : decode cX6_jump 1 = .ok (.getfield 12, 3) := by decide +kernel
theorem dX6_jump_4 : decode cX6_jump 4 = .ok (.bipush 106, 2) := by decide +kernel
theorem dX6_jump_6 : decode cX6_jump 6 = .ok (.iload_n 1, 1) := by decide +kernel
theorem dX6_jump_7 : decode cX6_jump 7 = .ok (.iconst 0, 1) := by decide +kernel
theorem dX6_jump_8 : decode cX6_jump 8 = .ok (.iconst 0, 1) := by decide +kernel
theorem dX6_jump_9 : decode cX6_jump 9 = .ok (.invokevirtual 57, 3) := by decide +kernel
theorem dX6_jump_12 : decode cX6_jump 12 = .ok (.ireturn, 1) := by decide +kernel
theorem dX6_address_0 : decode cX6_address 0 = .ok (.aload_n 0, 1) := by decide +kernel
theorem dX6_address_1 : decode cX6_address 1 = .ok (.getfield 12, 3) := by decide +kernel
theorem dX6_address_4 : decode cX6_address 4 = .ok (.bipush 97, 2) := by decide +kernel
theorem dX6_address_6 : decode cX6_address 6 = .ok (.iload_n 1, 1) := by decide +kernel
theorem dX6_address_7 : decode cX6_address 7 = .ok (.iconst 0, 1) := by decide +kernel
theorem dX6_address_8 : decode cX6_address 8 = .ok (.iconst 0, 1) := by decide +kernel
theorem dX6_address_9 : decode cX6_address 9 = .ok (.invokevirtual 57, 3) := by decide +kernel
theorem dX6_address_12 : decode cX6_address 12 = .ok (.ireturn, 1) := by decide +kernel
theorem dX6_align_0 : decode cX6_align 0 = .ok (.iload_n 1, 1) := by decide +kernel
theorem dX6_align_1 : decode cX6_align 1 = .ok (.iconst 2, 1) := by decide +kernel
theorem dX6_align_2 : decode cX6_align 2 = .ok (.if_icmp .lt 9, 3) := by decide +kernel
theorem dX6_align_5 : decode cX6_align 5 = .ok (.iload_n 1, 1) := by decide +kernel
theorem dX6_align_6 : decode cX6_align 6 = .ok (.bipush 8, 2) := by decide +kernel
theorem dX6_align_8 : decode cX6_align 8 = .ok (.if_icmp .le 13, 3) := by decide +kernel
theorem dX6_align_11 : decode cX6_align 11 = .ok (.new 61, 3) := by decide +kernel
theorem dX6_align_14 : decode cX6_align 14 = .ok (.dup, 1) := by decide +kernel
theorem dX6_align_15 : decode cX6_align 15 = .ok (.ldc 68, 2) := by decide +kernel
theorem dX6_align_17 : decode cX6_align 17 = .ok (.invokespecial 65, 3) := by decide +kernel
theorem dX6_align_20 : decode cX6_align 20 = .ok (.athrow, 1) := by decide +kernel
theorem dX6_align_21 : decode cX6_align 21 = .ok (.aload_n 0, 1) := by decide +kernel
theorem dX6_align_22 : decode cX6_align 22 = .ok (.getfield 12, 3) := by decide +kernel
theorem dX6_align_25 : decode cX6_align 25 = .ok (.bipush 103, 2) := by decide +kernel
theorem dX6_align_27 : decode cX6_align 27 = .ok (.iconst 0, 1) := by decide +kernel
theorem dX6_align_28 : decode cX6_align 28 = .ok (.iconst 0, 1) := by decide +kernel
theorem dX6_align_29 : decode cX6_align 29 = .ok (.iload_n 1, 1) := by decide +kernel
theorem dX6_align_30 : decode cX6_align 30 = .ok (.invokevirtual 57, 3) := by decide +kernel
theorem dX6_align_33 : decode cX6_align 33 = .ok (.ireturn, 1) := by decide +kernel
theorem dX6_call_0 : decode cX6_call 0 = .ok (.aload_n 0, 1) := by decide +kernel
theorem dX6_call_1 : decode cX6_call 1 = .ok (.getfield 12, 3) := by decide +kernel
theorem dX6_call_4 : decode cX6_call 4 = .ok (.iload_n 1, 1) := by decide +kernel
theorem dX6_call_5 : decode cX6_call 5 = .ok (.invokevirtual 70, 3) := by decide +kernel
theorem dX6_call_8 : decode cX6_call 8 = .ok (.ifCond .ne 13, 3) := by decide +kernel
theorem dX6_call_11 : decode cX6_call 11 = .ok (.new 74, 3) := by decide +kernel
theorem dX6_call_14 : decode cX6_call 14 = .ok (.dup, 1) := by decide +kernel
theorem dX6_call_15 : decode cX6_call 15 = .ok (.ldc 76, 2) := by decide +kernel
theorem dX6_call_17 : decode cX6_call 17 = .ok (.invokespecial 78, 3) := by decide +kernel
theorem dX6_call_20 : decode cX6_call 20 = .ok (.athrow, 1) := by decide +kernel
theorem dX6_call_21 : decode cX6_call 21 = .ok (.aload_n 0, 1) := by decide +kernel
theorem dX6_call_22 : decode cX6_call 22 = .ok (.getfield 12, 3) := by decide +kernel
theorem dX6_call_25 : decode cX6_call 25 = .ok (.bipush 67, 2) := by decide +kernel
theorem dX6_call_27 : decode cX6_call 27 = .ok (.iload_n 2, 1) := by decide +kernel
theorem dX6_call_28 : decode cX6_call 28 = .ok (.iload_n 3, 1) := by decide +kernel
theorem dX6_call_29 : decode cX6_call 29 = .ok (.iload_n 1, 1) := by decide +kernel
theorem dX6_call_30 : decode cX6_call 30 = .ok (.invokevirtual 57, 3) := by decide +kernel
theorem dX6_call_33 : decode cX6_call 33 = .ok (.ireturn, 1) := by decide +kernel
theorem dX6_block_0 : decode cX6_block 0 = .ok (.aload_n 0, 1) := by decide +kernel
theorem dX6_block_1 : decode cX6_block 1 = .ok (.getfield 12, 3) := by decide +kernel
theorem dX6_block_4 : decode cX6_block 4 = .ok (.bipush 66, 2) := by decide +kernel
theorem dX6_block_6 : decode cX6_block 6 = .ok (.iconst 0, 1) := by decide +kernel
theorem dX6_block_7 : decode cX6_block 7 = .ok (.iconst 0, 1) := by decide +kernel
theorem dX6_block_8 : decode cX6_block 8 = .ok (.iconst 0, 1) := by decide +kernel
theorem dX6_block_9 : decode cX6_block 9 = .ok (.invokevirtual 57, 3) := by decide +kernel
theorem dX6_block_12 : decode cX6_block 12 = .ok (.ireturn, 1) := by decide +kernel
theorem dX6_loop_0 : decode cX6_loop 0 = .ok (.aload_n 0, 1) := by decide +kernel
theorem dX6_loop_1 : decode cX6_loop 1 = .ok (.getfield 12, 3) := by decide +kernel
theorem dX6_loop_4 : decode cX6_loop 4 = .ok (.bipush 76, 2) := by decide +kernel
theorem dX6_loop_6 : decode cX6_loop 6 = .ok (.iload_n 1, 1) := by decide +kernel
theorem dX6_loop_7 : decode cX6_loop 7 = .ok (.iconst 0, 1) := by decide +kernel
theorem dX6_loop_8 : decode cX6_loop 8 = .ok (.iconst 0, 1) := by decide +kernel
theorem dX6_loop_9 : decode cX6_loop 9 = .ok (.invokevirtual 57, 3) := by decide +kernel
theorem dX6_loop_12 : decode cX6_loop 12 = .ok (.ireturn, 1) := by decide +kernel
theorem dX6_when_0 : decode cX6_when 0 = .ok (.aload_n 0, 1) := by decide +kernel
theorem dX6_when_1 : decode cX6_when 1 = .ok (.getfield 12, 3) := by decide +kernel
theorem dX6_when_4 : decode cX6_when 4 = .ok (.bipush 87, 2) := by decide +kernel
theorem dX6_when_6 : decode cX6_when 6 = .ok (.iload_n 1, 1) := by decide +kernel
theorem dX6_when_7 : decode cX6_when 7 = .ok (.iload_n 2, 1) := by decide +kernel
theorem dX6_when_8 : decode cX6_when 8 = .ok (.iconst 0, 1) := by decide +kernel
theorem dX6_when_9 : decode cX6_when 9 = .ok (.invokevirtual 57, 3) := by decide +kernel
theorem dX6_when_12 : decode cX6_when 12 = .ok (.ireturn, 1) := by decide +kernel
theorem dX6_end_0 : decode cX6_end 0 = .ok (.aload_n 0, 1) := by decide +kernel
theorem dX6_end_1 : decode cX6_end 1 = .ok (.getfield 12, 3) := by decide +kernel
theorem dX6_end_4 : decode cX6_end 4 = .ok (.invokevirtual 79, 3) := by decide +kernel
theorem dX6_end_7 : decode cX6_end 7 = .ok (.ireturn, 1) := by decide +kernel
theorem dX6_macro_0 : decode cX6_macro 0 = .ok (.aload_n 0, 1) := by decide +kernel
theorem dX6_macro_1 : decode cX6_macro 1 = .ok (.getfield 12, 3) := by decide +kernel
theorem dX6_macro_4 : decode cX6_macro 4 = .ok (.invokevirtual 83, 3) := by decide +kernel
theorem dX6_macro_7 : decode cX6_macro 7 = .ok (.ireturn, 1) := by decide +kernel
theorem dX6_endMacro_0 : decode cX6_endMacro 0 = .ok (.aload_n 0, 1) := by decide +kernel
theorem dX6_endMacro_1 : decode cX6_endMacro 1 = .ok (.getfield 12, 3) := by decide +kernel
theorem dX6_endMacro_4 : decode cX6_endMacro 4 = .ok (.invokevirtual 86, 3) := by decide +kernel
theorem dX6_endMacro_7 : decode cX6_endMacro 7 = .ok (.ireturn, 1) := by decide +kernel
theorem dX6_clear_0 : decode cX6_clear 0 = .ok (.aload_n 0, 1) := by decide +kernel
theorem dX6_clear_1 : decode cX6_clear 1 = .ok (.getfield 53, 3) := by decide +kernel
theorem dX6_clear_4 : decode cX6_clear 4 = .ok (.invokevirtual 89, 3) := by decide +kernel
theorem dX6_clear_7 : decode cX6_clear 7 = .ok (.aload_n 0, 1) := by decide +kernel
theorem dX6_clear_8 : decode cX6_clear 8 = .ok (.getfield 12, 3) := by decide +kernel
theorem dX6_clear_11 : decode cX6_clear 11 = .ok (.invokevirtual 92, 3) := by decide +kernel
theorem dX6_clear_14 : decode cX6_clear 14 = .ok (.ireturn, 1) := by decide +kernel
theorem dX6_lines_0 : decode cX6_lines 0 = .ok (.aload_n 0, 1) := by decide +kernel
theorem dX6_lines_1 : decode cX6_lines 1 = .ok (.getfield 12, 3) := by decide +kernel
theorem dX6_lines_4 : decode cX6_lines 4 = .ok (.invokevirtual 95, 3) := by decide +kernel
theorem dX6_lines_7 : decode cX6_lines 7 = .ok (.ireturn, 1) := by decide +kernel
theorem dX6_macros_0 : decode cX6_macros 0 = .ok (.aload_n 0, 1) := by decide +kernel
theorem dX6_macros_1 : decode cX6_macros 1 = .ok (.getfield 12, 3) := by decide +kernel
theorem dX6_macros_4 : decode cX6_macros 4 = .ok (.invokevirtual 98, 3) := by decide +kernel
theorem dX6_macros_7 : decode cX6_macros 7 = .ok (.ireturn, 1) := by decide +kernel
theorem dX6_assemble_0 : decode cX6_assemble 0 = .ok (.aload_n 0, 1) := by decide +kernel
theorem dX6_assemble_1 : decode cX6_assemble 1 = .ok (.getfield 37, 3) := by decide +kernel
theorem dX6_assemble_4 : decode cX6_assemble 4 = .ok (.invokevirtual 101, 3) := by decide +kernel
theorem dX6_assemble_7 : decode cX6_assemble 7 = .ok (.aload_n 0, 1) := by decide +kernel
theorem dX6_assemble_8 : decode cX6_assemble 8 = .ok (.getfield 37, 3) := by decide +kernel
theorem dX6_assemble_11 : decode cX6_assemble 11 = .ok (.invokevirtual 104, 3) := by decide +kernel
theorem dX6_assemble_14 : decode cX6_assemble 14 = .ok (.bipush 110, 2) := by decide +kernel
theorem dX6_assemble_16 : decode cX6_assemble 16 = .ok (.if_icmp .eq 5, 3) := by decide +kernel
theorem dX6_assemble_19 : decode cX6_assemble 19 = .ok (.iconst (-1), 1) := by decide +kernel
theorem dX6_assemble_20 : decode cX6_assemble 20 = .ok (.ireturn, 1) := by decide +kernel
theorem dX6_assemble_21 : decode cX6_assemble 21 = .ok (.aload_n 0, 1) := by decide +kernel
theorem dX6_assemble_22 : decode cX6_assemble 22 = .ok (.getfield 19, 3) := by decide +kernel
theorem dX6_assemble_25 : decode cX6_assemble 25 = .ok (.invokevirtual 107, 3) := by decide +kernel
theorem dX6_assemble_28 : decode cX6_assemble 28 = .ok (.aload_n 0, 1) := by decide +kernel
theorem dX6_assemble_29 : decode cX6_assemble 29 = .ok (.getfield 44, 3) := by decide +kernel
theorem dX6_assemble_32 : decode cX6_assemble 32 = .ok (.aload_n 0, 1) := by decide +kernel
theorem dX6_assemble_33 : decode cX6_assemble 33 = .ok (.getfield 19, 3) := by decide +kernel
theorem dX6_assemble_36 : decode cX6_assemble 36 = .ok (.invokevirtual 110, 3) := by decide +kernel
theorem dX6_assemble_39 : decode cX6_assemble 39 = .ok (.aload_n 0, 1) := by decide +kernel
theorem dX6_assemble_40 : decode cX6_assemble 40 = .ok (.getfield 44, 3) := by decide +kernel
theorem dX6_assemble_43 : decode cX6_assemble 43 = .ok (.invokevirtual 113, 3) := by decide +kernel
theorem dX6_assemble_46 : decode cX6_assemble 46 = .ok (.ireturn, 1) := by decide +kernel
theorem dX6_fault_0 : decode cX6_fault 0 = .ok (.aload_n 0, 1) := by decide +kernel
theorem dX6_fault_1 : decode cX6_fault 1 = .ok (.getfield 37, 3) := by decide +kernel
theorem dX6_fault_4 : decode cX6_fault 4 = .ok (.invokevirtual 104, 3) := by decide +kernel
theorem dX6_fault_7 : decode cX6_fault 7 = .ok (.ifCond .ne 13, 3) := by decide +kernel
theorem dX6_fault_10 : decode cX6_fault 10 = .ok (.new 74, 3) := by decide +kernel
theorem dX6_fault_13 : decode cX6_fault 13 = .ok (.dup, 1) := by decide +kernel
theorem dX6_fault_14 : decode cX6_fault 14 = .ok (.ldc 114, 2) := by decide +kernel
theorem dX6_fault_16 : decode cX6_fault 16 = .ok (.invokespecial 78, 3) := by decide +kernel
theorem dX6_fault_19 : decode cX6_fault 19 = .ok (.athrow, 1) := by decide +kernel
theorem dX6_fault_20 : decode cX6_fault 20 = .ok (.aload_n 0, 1) := by decide +kernel
theorem dX6_fault_21 : decode cX6_fault 21 = .ok (.getfield 37, 3) := by decide +kernel
theorem dX6_fault_24 : decode cX6_fault 24 = .ok (.invokevirtual 104, 3) := by decide +kernel
theorem dX6_fault_27 : decode cX6_fault 27 = .ok (.i2c, 1) := by decide +kernel
theorem dX6_fault_28 : decode cX6_fault 28 = .ok (.ireturn, 1) := by decide +kernel
theorem dX6_faultLine_0 : decode cX6_faultLine 0 = .ok (.aload_n 0, 1) := by decide +kernel
theorem dX6_faultLine_1 : decode cX6_faultLine 1 = .ok (.getfield 37, 3) := by decide +kernel
theorem dX6_faultLine_4 : decode cX6_faultLine 4 = .ok (.invokevirtual 104, 3) := by decide +kernel
theorem dX6_faultLine_7 : decode cX6_faultLine 7 = .ok (.istore_n 1, 1) := by decide +kernel
theorem dX6_faultLine_8 : decode cX6_faultLine 8 = .ok (.iload_n 1, 1) := by decide +kernel
theorem dX6_faultLine_9 : decode cX6_faultLine 9 = .ok (.ifCond .eq 9, 3) := by decide +kernel
theorem dX6_faultLine_12 : decode cX6_faultLine 12 = .ok (.iload_n 1, 1) := by decide +kernel
theorem dX6_faultLine_13 : decode cX6_faultLine 13 = .ok (.bipush 110, 2) := by decide +kernel
theorem dX6_faultLine_15 : decode cX6_faultLine 15 = .ok (.if_icmp .ne 13, 3) := by decide +kernel
theorem dX6_faultLine_18 : decode cX6_faultLine 18 = .ok (.new 74, 3) := by decide +kernel
theorem dX6_faultLine_21 : decode cX6_faultLine 21 = .ok (.dup, 1) := by decide +kernel
theorem dX6_faultLine_22 : decode cX6_faultLine 22 = .ok (.ldc 116, 2) := by decide +kernel
theorem dX6_faultLine_24 : decode cX6_faultLine 24 = .ok (.invokespecial 78, 3) := by decide +kernel
theorem dX6_faultLine_27 : decode cX6_faultLine 27 = .ok (.athrow, 1) := by decide +kernel
theorem dX6_faultLine_28 : decode cX6_faultLine 28 = .ok (.aload_n 0, 1) := by decide +kernel
theorem dX6_faultLine_29 : decode cX6_faultLine 29 = .ok (.getfield 37, 3) := by decide +kernel
theorem dX6_faultLine_32 : decode cX6_faultLine 32 = .ok (.invokevirtual 118, 3) := by decide +kernel
theorem dX6_faultLine_35 : decode cX6_faultLine 35 = .ok (.ireturn, 1) := by decide +kernel
theorem dX6_itemsByCounting_0 : decode cX6_itemsByCounting 0 = .ok (.aload_n 0, 1) := by decide +kernel
theorem dX6_itemsByCounting_1 : decode cX6_itemsByCounting 1 = .ok (.getfield 12, 3) := by decide +kernel
theorem dX6_itemsByCounting_4 : decode cX6_itemsByCounting 4 = .ok (.invokevirtual 121, 3) := by decide +kernel
theorem dX6_itemsByCounting_7 : decode cX6_itemsByCounting 7 = .ok (.iconst (-1), 1) := by decide +kernel
theorem dX6_itemsByCounting_8 : decode cX6_itemsByCounting 8 = .ok (.if_icmp .eq 13, 3) := by decide +kernel
theorem dX6_itemsByCounting_11 : decode cX6_itemsByCounting 11 = .ok (.new 124, 3) := by decide +kernel
theorem dX6_itemsByCounting_14 : decode cX6_itemsByCounting 14 = .ok (.dup, 1) := by decide +kernel
theorem dX6_itemsByCounting_15 : decode cX6_itemsByCounting 15 = .ok (.ldc 126, 2) := by decide +kernel
theorem dX6_itemsByCounting_17 : decode cX6_itemsByCounting 17 = .ok (.invokespecial 128, 3) := by decide +kernel
theorem dX6_itemsByCounting_20 : decode cX6_itemsByCounting 20 = .ok (.athrow, 1) := by decide +kernel
theorem dX6_itemsByCounting_21 : decode cX6_itemsByCounting 21 = .ok (.aload_n 0, 1) := by decide +kernel
theorem dX6_itemsByCounting_22 : decode cX6_itemsByCounting 22 = .ok (.getfield 53, 3) := by decide +kernel
theorem dX6_itemsByCounting_25 : decode cX6_itemsByCounting 25 = .ok (.invokevirtual 129, 3) := by decide +kernel
theorem dX6_itemsByCounting_28 : decode cX6_itemsByCounting 28 = .ok (.istore_n 1, 1) := by decide +kernel
theorem dX6_itemsByCounting_29 : decode cX6_itemsByCounting 29 = .ok (.iload_n 1, 1) := by decide +kernel
theorem dX6_itemsByCounting_30 : decode cX6_itemsByCounting 30 = .ok (.iconst (-1), 1) := by decide +kernel
theorem dX6_itemsByCounting_31 : decode cX6_itemsByCounting 31 = .ok (.if_icmp .ne 13, 3) := by decide +kernel
theorem dX6_itemsByCounting_34 : decode cX6_itemsByCounting 34 = .ok (.new 132, 3) := by decide +kernel
theorem dX6_itemsByCounting_37 : decode cX6_itemsByCounting 37 = .ok (.dup, 1) := by decide +kernel
theorem dX6_itemsByCounting_38 : decode cX6_itemsByCounting 38 = .ok (.ldc 134, 2) := by decide +kernel
theorem dX6_itemsByCounting_40 : decode cX6_itemsByCounting 40 = .ok (.invokespecial 136, 3) := by decide +kernel
theorem dX6_itemsByCounting_43 : decode cX6_itemsByCounting 43 = .ok (.athrow, 1) := by decide +kernel
theorem dX6_itemsByCounting_44 : decode cX6_itemsByCounting 44 = .ok (.iload_n 1, 1) := by decide +kernel
theorem dX6_itemsByCounting_45 : decode cX6_itemsByCounting 45 = .ok (.i2l, 1) := by decide +kernel
theorem dX6_itemsByCounting_46 : decode cX6_itemsByCounting 46 = .ok (.lreturn, 1) := by decide +kernel
theorem dX6_words_0 : decode cX6_words 0 = .ok (.aload_n 0, 1) := by decide +kernel
theorem dX6_words_1 : decode cX6_words 1 = .ok (.invokevirtual 137, 3) := by decide +kernel
theorem dX6_words_4 : decode cX6_words 4 = .ok (.aload_n 0, 1) := by decide +kernel
theorem dX6_words_5 : decode cX6_words 5 = .ok (.getfield 44, 3) := by decide +kernel
theorem dX6_words_8 : decode cX6_words 8 = .ok (.invokevirtual 113, 3) := by decide +kernel
theorem dX6_words_11 : decode cX6_words 11 = .ok (.ireturn, 1) := by decide +kernel
theorem dX6_wordAt_0 : decode cX6_wordAt 0 = .ok (.aload_n 0, 1) := by decide +kernel
theorem dX6_wordAt_1 : decode cX6_wordAt 1 = .ok (.iload_n 1, 1) := by decide +kernel
theorem dX6_wordAt_2 : decode cX6_wordAt 2 = .ok (.invokevirtual 140, 3) := by decide +kernel
theorem dX6_wordAt_5 : decode cX6_wordAt 5 = .ok (.aload_n 0, 1) := by decide +kernel
theorem dX6_wordAt_6 : decode cX6_wordAt 6 = .ok (.getfield 44, 3) := by decide +kernel
theorem dX6_wordAt_9 : decode cX6_wordAt 9 = .ok (.iload_n 1, 1) := by decide +kernel
theorem dX6_wordAt_10 : decode cX6_wordAt 10 = .ok (.invokevirtual 144, 3) := by decide +kernel
theorem dX6_wordAt_13 : decode cX6_wordAt 13 = .ok (.ireturn, 1) := by decide +kernel
theorem dX6_relocations_0 : decode cX6_relocations 0 = .ok (.aload_n 0, 1) := by decide +kernel
theorem dX6_relocations_1 : decode cX6_relocations 1 = .ok (.invokevirtual 137, 3) := by decide +kernel
theorem dX6_relocations_4 : decode cX6_relocations 4 = .ok (.aload_n 0, 1) := by decide +kernel
theorem dX6_relocations_5 : decode cX6_relocations 5 = .ok (.getfield 44, 3) := by decide +kernel
theorem dX6_relocations_8 : decode cX6_relocations 8 = .ok (.invokevirtual 148, 3) := by decide +kernel
theorem dX6_relocations_11 : decode cX6_relocations 11 = .ok (.ireturn, 1) := by decide +kernel
theorem dX6_loadedWord_0 : decode cX6_loadedWord 0 = .ok (.aload_n 0, 1) := by decide +kernel
theorem dX6_loadedWord_1 : decode cX6_loadedWord 1 = .ok (.iload_n 1, 1) := by decide +kernel
theorem dX6_loadedWord_2 : decode cX6_loadedWord 2 = .ok (.invokevirtual 140, 3) := by decide +kernel
theorem dX6_loadedWord_5 : decode cX6_loadedWord 5 = .ok (.iload_n 2, 1) := by decide +kernel
theorem dX6_loadedWord_6 : decode cX6_loadedWord 6 = .ok (.ifCond .lt 10, 3) := by decide +kernel
theorem dX6_loadedWord_9 : decode cX6_loadedWord 9 = .ok (.iload_n 2, 1) := by decide +kernel
theorem dX6_loadedWord_10 : decode cX6_loadedWord 10 = .ok (.sipush 9999, 3) := by decide +kernel
theorem dX6_loadedWord_13 : decode cX6_loadedWord 13 = .ok (.if_icmp .le 13, 3) := by decide +kernel
theorem dX6_loadedWord_16 : decode cX6_loadedWord 16 = .ok (.new 61, 3) := by decide +kernel
theorem dX6_loadedWord_19 : decode cX6_loadedWord 19 = .ok (.dup, 1) := by decide +kernel
theorem dX6_loadedWord_20 : decode cX6_loadedWord 20 = .ok (.ldc 151, 2) := by decide +kernel
theorem dX6_loadedWord_22 : decode cX6_loadedWord 22 = .ok (.invokespecial 65, 3) := by decide +kernel
theorem dX6_loadedWord_25 : decode cX6_loadedWord 25 = .ok (.athrow, 1) := by decide +kernel
theorem dX6_loadedWord_26 : decode cX6_loadedWord 26 = .ok (.aload_n 0, 1) := by decide +kernel
theorem dX6_loadedWord_27 : decode cX6_loadedWord 27 = .ok (.getfield 44, 3) := by decide +kernel
theorem dX6_loadedWord_30 : decode cX6_loadedWord 30 = .ok (.iload_n 1, 1) := by decide +kernel
theorem dX6_loadedWord_31 : decode cX6_loadedWord 31 = .ok (.invokevirtual 153, 3) := by decide +kernel
theorem dX6_loadedWord_34 : decode cX6_loadedWord 34 = .ok (.ifCond .eq 16, 3) := by decide +kernel
theorem dX6_loadedWord_37 : decode cX6_loadedWord 37 = .ok (.aload_n 0, 1) := by decide +kernel
theorem dX6_loadedWord_38 : decode cX6_loadedWord 38 = .ok (.getfield 44, 3) := by decide +kernel
theorem dX6_loadedWord_41 : decode cX6_loadedWord 41 = .ok (.iload_n 1, 1) := by decide +kernel
theorem dX6_loadedWord_42 : decode cX6_loadedWord 42 = .ok (.invokevirtual 144, 3) := by decide +kernel
theorem dX6_loadedWord_45 : decode cX6_loadedWord 45 = .ok (.iload_n 2, 1) := by decide +kernel
theorem dX6_loadedWord_46 : decode cX6_loadedWord 46 = .ok (.iadd, 1) := by decide +kernel
theorem dX6_loadedWord_47 : decode cX6_loadedWord 47 = .ok (.goto 11, 3) := by decide +kernel
theorem dX6_loadedWord_50 : decode cX6_loadedWord 50 = .ok (.aload_n 0, 1) := by decide +kernel
theorem dX6_loadedWord_51 : decode cX6_loadedWord 51 = .ok (.getfield 44, 3) := by decide +kernel
theorem dX6_loadedWord_54 : decode cX6_loadedWord 54 = .ok (.iload_n 1, 1) := by decide +kernel
theorem dX6_loadedWord_55 : decode cX6_loadedWord 55 = .ok (.invokevirtual 144, 3) := by decide +kernel
theorem dX6_loadedWord_58 : decode cX6_loadedWord 58 = .ok (.ireturn, 1) := by decide +kernel
theorem dX6_labelAddress_0 : decode cX6_labelAddress 0 = .ok (.aload_n 0, 1) := by decide +kernel
theorem dX6_labelAddress_1 : decode cX6_labelAddress 1 = .ok (.invokevirtual 137, 3) := by decide +kernel
theorem dX6_labelAddress_4 : decode cX6_labelAddress 4 = .ok (.aload_n 0, 1) := by decide +kernel
theorem dX6_labelAddress_5 : decode cX6_labelAddress 5 = .ok (.getfield 28, 3) := by decide +kernel
theorem dX6_labelAddress_8 : decode cX6_labelAddress 8 = .ok (.iconst 0, 1) := by decide +kernel
theorem dX6_labelAddress_9 : decode cX6_labelAddress 9 = .ok (.iload_n 1, 1) := by decide +kernel
theorem dX6_labelAddress_10 : decode cX6_labelAddress 10 = .ok (.invokevirtual 156, 3) := by decide +kernel
theorem dX6_labelAddress_13 : decode cX6_labelAddress 13 = .ok (.istore_n 2, 1) := by decide +kernel
theorem dX6_labelAddress_14 : decode cX6_labelAddress 14 = .ok (.iload_n 2, 1) := by decide +kernel
theorem dX6_labelAddress_15 : decode cX6_labelAddress 15 = .ok (.iconst (-1), 1) := by decide +kernel
theorem dX6_labelAddress_16 : decode cX6_labelAddress 16 = .ok (.if_icmp .ne 13, 3) := by decide +kernel
theorem dX6_labelAddress_19 : decode cX6_labelAddress 19 = .ok (.new 74, 3) := by decide +kernel
theorem dX6_labelAddress_22 : decode cX6_labelAddress 22 = .ok (.dup, 1) := by decide +kernel
theorem dX6_labelAddress_23 : decode cX6_labelAddress 23 = .ok (.ldc 160, 2) := by decide +kernel
theorem dX6_labelAddress_25 : decode cX6_labelAddress 25 = .ok (.invokespecial 78, 3) := by decide +kernel
theorem dX6_labelAddress_28 : decode cX6_labelAddress 28 = .ok (.athrow, 1) := by decide +kernel
theorem dX6_labelAddress_29 : decode cX6_labelAddress 29 = .ok (.aload_n 0, 1) := by decide +kernel
theorem dX6_labelAddress_30 : decode cX6_labelAddress 30 = .ok (.getfield 19, 3) := by decide +kernel
theorem dX6_labelAddress_33 : decode cX6_labelAddress 33 = .ok (.iload_n 2, 1) := by decide +kernel
theorem dX6_labelAddress_34 : decode cX6_labelAddress 34 = .ok (.invokevirtual 162, 3) := by decide +kernel
theorem dX6_labelAddress_37 : decode cX6_labelAddress 37 = .ok (.ireturn, 1) := by decide +kernel
theorem dX6_passes_0 : decode cX6_passes 0 = .ok (.aload_n 0, 1) := by decide +kernel
theorem dX6_passes_1 : decode cX6_passes 1 = .ok (.invokevirtual 137, 3) := by decide +kernel
theorem dX6_passes_4 : decode cX6_passes 4 = .ok (.aload_n 0, 1) := by decide +kernel
theorem dX6_passes_5 : decode cX6_passes 5 = .ok (.getfield 19, 3) := by decide +kernel
theorem dX6_passes_8 : decode cX6_passes 8 = .ok (.invokevirtual 165, 3) := by decide +kernel
theorem dX6_passes_11 : decode cX6_passes 11 = .ok (.ireturn, 1) := by decide +kernel
theorem dX6_longJumps_0 : decode cX6_longJumps 0 = .ok (.aload_n 0, 1) := by decide +kernel
theorem dX6_longJumps_1 : decode cX6_longJumps 1 = .ok (.invokevirtual 137, 3) := by decide +kernel
theorem dX6_longJumps_4 : decode cX6_longJumps 4 = .ok (.aload_n 0, 1) := by decide +kernel
theorem dX6_longJumps_5 : decode cX6_longJumps 5 = .ok (.getfield 19, 3) := by decide +kernel
theorem dX6_longJumps_8 : decode cX6_longJumps 8 = .ok (.bipush 74, 2) := by decide +kernel
theorem dX6_longJumps_10 : decode cX6_longJumps 10 = .ok (.invokevirtual 168, 3) := by decide +kernel
theorem dX6_longJumps_13 : decode cX6_longJumps 13 = .ok (.ireturn, 1) := by decide +kernel
theorem dX6_items_0 : decode cX6_items 0 = .ok (.aload_n 0, 1) := by decide +kernel
theorem dX6_items_1 : decode cX6_items 1 = .ok (.invokevirtual 137, 3) := by decide +kernel
theorem dX6_items_4 : decode cX6_items 4 = .ok (.aload_n 0, 1) := by decide +kernel
theorem dX6_items_5 : decode cX6_items 5 = .ok (.getfield 19, 3) := by decide +kernel
theorem dX6_items_8 : decode cX6_items 8 = .ok (.invokevirtual 171, 3) := by decide +kernel
theorem dX6_items_11 : decode cX6_items 11 = .ok (.ireturn, 1) := by decide +kernel
theorem dX6_lineOf_0 : decode cX6_lineOf 0 = .ok (.aload_n 0, 1) := by decide +kernel
theorem dX6_lineOf_1 : decode cX6_lineOf 1 = .ok (.iload_n 1, 1) := by decide +kernel
theorem dX6_lineOf_2 : decode cX6_lineOf 2 = .ok (.invokevirtual 172, 3) := by decide +kernel
theorem dX6_lineOf_5 : decode cX6_lineOf 5 = .ok (.aload_n 0, 1) := by decide +kernel
theorem dX6_lineOf_6 : decode cX6_lineOf 6 = .ok (.getfield 19, 3) := by decide +kernel
theorem dX6_lineOf_9 : decode cX6_lineOf 9 = .ok (.iload_n 1, 1) := by decide +kernel
theorem dX6_lineOf_10 : decode cX6_lineOf 10 = .ok (.invokevirtual 175, 3) := by decide +kernel
theorem dX6_lineOf_13 : decode cX6_lineOf 13 = .ok (.ireturn, 1) := by decide +kernel
theorem dX6_kindOf_0 : decode cX6_kindOf 0 = .ok (.aload_n 0, 1) := by decide +kernel
theorem dX6_kindOf_1 : decode cX6_kindOf 1 = .ok (.iload_n 1, 1) := by decide +kernel
theorem dX6_kindOf_2 : decode cX6_kindOf 2 = .ok (.invokevirtual 172, 3) := by decide +kernel
theorem dX6_kindOf_5 : decode cX6_kindOf 5 = .ok (.aload_n 0, 1) := by decide +kernel
theorem dX6_kindOf_6 : decode cX6_kindOf 6 = .ok (.getfield 19, 3) := by decide +kernel
theorem dX6_kindOf_9 : decode cX6_kindOf 9 = .ok (.iload_n 1, 1) := by decide +kernel
theorem dX6_kindOf_10 : decode cX6_kindOf 10 = .ok (.invokevirtual 178, 3) := by decide +kernel
theorem dX6_kindOf_13 : decode cX6_kindOf 13 = .ok (.i2c, 1) := by decide +kernel
theorem dX6_kindOf_14 : decode cX6_kindOf 14 = .ok (.ireturn, 1) := by decide +kernel
theorem dX6_depthOf_0 : decode cX6_depthOf 0 = .ok (.aload_n 0, 1) := by decide +kernel
theorem dX6_depthOf_1 : decode cX6_depthOf 1 = .ok (.iload_n 1, 1) := by decide +kernel
theorem dX6_depthOf_2 : decode cX6_depthOf 2 = .ok (.invokevirtual 172, 3) := by decide +kernel
theorem dX6_depthOf_5 : decode cX6_depthOf 5 = .ok (.aload_n 0, 1) := by decide +kernel
theorem dX6_depthOf_6 : decode cX6_depthOf 6 = .ok (.getfield 19, 3) := by decide +kernel
theorem dX6_depthOf_9 : decode cX6_depthOf 9 = .ok (.iload_n 1, 1) := by decide +kernel
theorem dX6_depthOf_10 : decode cX6_depthOf 10 = .ok (.invokevirtual 181, 3) := by decide +kernel
theorem dX6_depthOf_13 : decode cX6_depthOf 13 = .ok (.ireturn, 1) := by decide +kernel
theorem dX6_addressOf_0 : decode cX6_addressOf 0 = .ok (.aload_n 0, 1) := by decide +kernel
theorem dX6_addressOf_1 : decode cX6_addressOf 1 = .ok (.iload_n 1, 1) := by decide +kernel
theorem dX6_addressOf_2 : decode cX6_addressOf 2 = .ok (.invokevirtual 172, 3) := by decide +kernel
theorem dX6_addressOf_5 : decode cX6_addressOf 5 = .ok (.aload_n 0, 1) := by decide +kernel
theorem dX6_addressOf_6 : decode cX6_addressOf 6 = .ok (.getfield 19, 3) := by decide +kernel
theorem dX6_addressOf_9 : decode cX6_addressOf 9 = .ok (.iload_n 1, 1) := by decide +kernel
theorem dX6_addressOf_10 : decode cX6_addressOf 10 = .ok (.invokevirtual 162, 3) := by decide +kernel
theorem dX6_addressOf_13 : decode cX6_addressOf 13 = .ok (.ireturn, 1) := by decide +kernel
theorem dX6_addressByAdding_0 : decode cX6_addressByAdding 0 = .ok (.aload_n 0, 1) := by decide +kernel
theorem dX6_addressByAdding_1 : decode cX6_addressByAdding 1 = .ok (.iload_n 1, 1) := by decide +kernel
theorem dX6_addressByAdding_2 : decode cX6_addressByAdding 2 = .ok (.invokevirtual 172, 3) := by decide +kernel
theorem dX6_addressByAdding_5 : decode cX6_addressByAdding 5 = .ok (.aload_n 0, 1) := by decide +kernel
theorem dX6_addressByAdding_6 : decode cX6_addressByAdding 6 = .ok (.getfield 19, 3) := by decide +kernel
theorem dX6_addressByAdding_9 : decode cX6_addressByAdding 9 = .ok (.iload_n 1, 1) := by decide +kernel
theorem dX6_addressByAdding_10 : decode cX6_addressByAdding 10 = .ok (.invokevirtual 184, 3) := by decide +kernel
theorem dX6_addressByAdding_13 : decode cX6_addressByAdding 13 = .ok (.ireturn, 1) := by decide +kernel
theorem dX6_targetOf_0 : decode cX6_targetOf 0 = .ok (.aload_n 0, 1) := by decide +kernel
theorem dX6_targetOf_1 : decode cX6_targetOf 1 = .ok (.iload_n 1, 1) := by decide +kernel
theorem dX6_targetOf_2 : decode cX6_targetOf 2 = .ok (.invokevirtual 172, 3) := by decide +kernel
theorem dX6_targetOf_5 : decode cX6_targetOf 5 = .ok (.aload_n 0, 1) := by decide +kernel
theorem dX6_targetOf_6 : decode cX6_targetOf 6 = .ok (.getfield 19, 3) := by decide +kernel
theorem dX6_targetOf_9 : decode cX6_targetOf 9 = .ok (.iload_n 1, 1) := by decide +kernel
theorem dX6_targetOf_10 : decode cX6_targetOf 10 = .ok (.invokevirtual 187, 3) := by decide +kernel
theorem dX6_targetOf_13 : decode cX6_targetOf 13 = .ok (.istore_n 2, 1) := by decide +kernel
theorem dX6_targetOf_14 : decode cX6_targetOf 14 = .ok (.iload_n 2, 1) := by decide +kernel
theorem dX6_targetOf_15 : decode cX6_targetOf 15 = .ok (.iconst (-1), 1) := by decide +kernel
theorem dX6_targetOf_16 : decode cX6_targetOf 16 = .ok (.if_icmp .ne 13, 3) := by decide +kernel
theorem dX6_targetOf_19 : decode cX6_targetOf 19 = .ok (.new 132, 3) := by decide +kernel
theorem dX6_targetOf_22 : decode cX6_targetOf 22 = .ok (.dup, 1) := by decide +kernel
theorem dX6_targetOf_23 : decode cX6_targetOf 23 = .ok (.ldc 190, 2) := by decide +kernel
theorem dX6_targetOf_25 : decode cX6_targetOf 25 = .ok (.invokespecial 136, 3) := by decide +kernel
theorem dX6_targetOf_28 : decode cX6_targetOf 28 = .ok (.athrow, 1) := by decide +kernel
theorem dX6_targetOf_29 : decode cX6_targetOf 29 = .ok (.iload_n 2, 1) := by decide +kernel
theorem dX6_targetOf_30 : decode cX6_targetOf 30 = .ok (.ireturn, 1) := by decide +kernel
theorem dX6_shortShare_0 : decode cX6_shortShare 0 = .ok (.aload_n 0, 1) := by decide +kernel
theorem dX6_shortShare_1 : decode cX6_shortShare 1 = .ok (.invokevirtual 137, 3) := by decide +kernel
theorem dX6_shortShare_4 : decode cX6_shortShare 4 = .ok (.aload_n 0, 1) := by decide +kernel
theorem dX6_shortShare_5 : decode cX6_shortShare 5 = .ok (.getfield 19, 3) := by decide +kernel
theorem dX6_shortShare_8 : decode cX6_shortShare 8 = .ok (.bipush 106, 2) := by decide +kernel
theorem dX6_shortShare_10 : decode cX6_shortShare 10 = .ok (.invokevirtual 168, 3) := by decide +kernel
theorem dX6_shortShare_13 : decode cX6_shortShare 13 = .ok (.istore_n 1, 1) := by decide +kernel
theorem dX6_shortShare_14 : decode cX6_shortShare 14 = .ok (.iload_n 1, 1) := by decide +kernel
theorem dX6_shortShare_15 : decode cX6_shortShare 15 = .ok (.aload_n 0, 1) := by decide +kernel
theorem dX6_shortShare_16 : decode cX6_shortShare 16 = .ok (.getfield 19, 3) := by decide +kernel
theorem dX6_shortShare_19 : decode cX6_shortShare 19 = .ok (.bipush 74, 2) := by decide +kernel
theorem dX6_shortShare_21 : decode cX6_shortShare 21 = .ok (.invokevirtual 168, 3) := by decide +kernel
theorem dX6_shortShare_24 : decode cX6_shortShare 24 = .ok (.iadd, 1) := by decide +kernel
theorem dX6_shortShare_25 : decode cX6_shortShare 25 = .ok (.istore_n 2, 1) := by decide +kernel
theorem dX6_shortShare_26 : decode cX6_shortShare 26 = .ok (.iload_n 2, 1) := by decide +kernel
theorem dX6_shortShare_27 : decode cX6_shortShare 27 = .ok (.ifCond .ne 13, 3) := by decide +kernel
theorem dX6_shortShare_30 : decode cX6_shortShare 30 = .ok (.new 192, 3) := by decide +kernel
theorem dX6_shortShare_33 : decode cX6_shortShare 33 = .ok (.dup, 1) := by decide +kernel
theorem dX6_shortShare_34 : decode cX6_shortShare 34 = .ok (.ldc 194, 2) := by decide +kernel
theorem dX6_shortShare_36 : decode cX6_shortShare 36 = .ok (.invokespecial 196, 3) := by decide +kernel
theorem dX6_shortShare_39 : decode cX6_shortShare 39 = .ok (.athrow, 1) := by decide +kernel
theorem dX6_shortShare_40 : decode cX6_shortShare 40 = .ok (.iload_n 1, 1) := by decide +kernel
theorem dX6_shortShare_41 : decode cX6_shortShare 41 = .ok (.i2f, 1) := by decide +kernel
theorem dX6_shortShare_42 : decode cX6_shortShare 42 = .ok (.iload_n 2, 1) := by decide +kernel
theorem dX6_shortShare_43 : decode cX6_shortShare 43 = .ok (.i2f, 1) := by decide +kernel
theorem dX6_shortShare_44 : decode cX6_shortShare 44 = .ok (.fdiv, 1) := by decide +kernel
theorem dX6_shortShare_45 : decode cX6_shortShare 45 = .ok (.freturn, 1) := by decide +kernel
theorem dX6_requireProgram_0 : decode cX6_requireProgram 0 = .ok (.aload_n 0, 1) := by decide +kernel
theorem dX6_requireProgram_1 : decode cX6_requireProgram 1 = .ok (.getfield 37, 3) := by decide +kernel
theorem dX6_requireProgram_4 : decode cX6_requireProgram 4 = .ok (.invokevirtual 104, 3) := by decide +kernel
theorem dX6_requireProgram_7 : decode cX6_requireProgram 7 = .ok (.bipush 110, 2) := by decide +kernel
theorem dX6_requireProgram_9 : decode cX6_requireProgram 9 = .ok (.if_icmp .eq 13, 3) := by decide +kernel
theorem dX6_requireProgram_12 : decode cX6_requireProgram 12 = .ok (.new 74, 3) := by decide +kernel
theorem dX6_requireProgram_15 : decode cX6_requireProgram 15 = .ok (.dup, 1) := by decide +kernel
theorem dX6_requireProgram_16 : decode cX6_requireProgram 16 = .ok (.ldc 203, 2) := by decide +kernel
theorem dX6_requireProgram_18 : decode cX6_requireProgram 18 = .ok (.invokespecial 78, 3) := by decide +kernel
theorem dX6_requireProgram_21 : decode cX6_requireProgram 21 = .ok (.athrow, 1) := by decide +kernel
theorem dX6_requireProgram_22 : decode cX6_requireProgram 22 = .ok (.return_, 1) := by decide +kernel
theorem dX6_requireWord_0 : decode cX6_requireWord 0 = .ok (.aload_n 0, 1) := by decide +kernel
theorem dX6_requireWord_1 : decode cX6_requireWord 1 = .ok (.invokevirtual 137, 3) := by decide +kernel
theorem dX6_requireWord_4 : decode cX6_requireWord 4 = .ok (.iload_n 1, 1) := by decide +kernel
theorem dX6_requireWord_5 : decode cX6_requireWord 5 = .ok (.ifCond .lt 14, 3) := by decide +kernel
theorem dX6_requireWord_8 : decode cX6_requireWord 8 = .ok (.iload_n 1, 1) := by decide +kernel
theorem dX6_requireWord_9 : decode cX6_requireWord 9 = .ok (.aload_n 0, 1) := by decide +kernel
theorem dX6_requireWord_10 : decode cX6_requireWord 10 = .ok (.getfield 44, 3) := by decide +kernel
theorem dX6_requireWord_13 : decode cX6_requireWord 13 = .ok (.invokevirtual 113, 3) := by decide +kernel
theorem dX6_requireWord_16 : decode cX6_requireWord 16 = .ok (.if_icmp .lt 13, 3) := by decide +kernel
theorem dX6_requireWord_19 : decode cX6_requireWord 19 = .ok (.new 205, 3) := by decide +kernel
theorem dX6_requireWord_22 : decode cX6_requireWord 22 = .ok (.dup, 1) := by decide +kernel
theorem dX6_requireWord_23 : decode cX6_requireWord 23 = .ok (.ldc 207, 2) := by decide +kernel
theorem dX6_requireWord_25 : decode cX6_requireWord 25 = .ok (.invokespecial 209, 3) := by decide +kernel
theorem dX6_requireWord_28 : decode cX6_requireWord 28 = .ok (.athrow, 1) := by decide +kernel
theorem dX6_requireWord_29 : decode cX6_requireWord 29 = .ok (.return_, 1) := by decide +kernel
theorem dX6_requireItem_0 : decode cX6_requireItem 0 = .ok (.aload_n 0, 1) := by decide +kernel
theorem dX6_requireItem_1 : decode cX6_requireItem 1 = .ok (.invokevirtual 137, 3) := by decide +kernel
theorem dX6_requireItem_4 : decode cX6_requireItem 4 = .ok (.iload_n 1, 1) := by decide +kernel
theorem dX6_requireItem_5 : decode cX6_requireItem 5 = .ok (.ifCond .lt 14, 3) := by decide +kernel
theorem dX6_requireItem_8 : decode cX6_requireItem 8 = .ok (.iload_n 1, 1) := by decide +kernel
theorem dX6_requireItem_9 : decode cX6_requireItem 9 = .ok (.aload_n 0, 1) := by decide +kernel
theorem dX6_requireItem_10 : decode cX6_requireItem 10 = .ok (.getfield 19, 3) := by decide +kernel
theorem dX6_requireItem_13 : decode cX6_requireItem 13 = .ok (.invokevirtual 171, 3) := by decide +kernel
theorem dX6_requireItem_16 : decode cX6_requireItem 16 = .ok (.if_icmp .lt 13, 3) := by decide +kernel
theorem dX6_requireItem_19 : decode cX6_requireItem 19 = .ok (.new 205, 3) := by decide +kernel
theorem dX6_requireItem_22 : decode cX6_requireItem 22 = .ok (.dup, 1) := by decide +kernel
theorem dX6_requireItem_23 : decode cX6_requireItem 23 = .ok (.ldc 210, 2) := by decide +kernel
theorem dX6_requireItem_25 : decode cX6_requireItem 25 = .ok (.invokespecial 209, 3) := by decide +kernel
theorem dX6_requireItem_28 : decode cX6_requireItem 28 = .ok (.athrow, 1) := by decide +kernel
theorem dX6_requireItem_29 : decode cX6_requireItem 29 = .ok (.return_, 1) := by decide +kernel
theorem dX6_at_0 : decode cX6_at 0 = .ok (.iload_n 1, 1) := by decide +kernel
theorem dX6_at_1 : decode cX6_at 1 = .ok (.ifCond .lt 15, 3) := by decide +kernel
theorem dX6_at_4 : decode cX6_at 4 = .ok (.iload_n 1, 1) := by decide +kernel
theorem dX6_at_5 : decode cX6_at 5 = .ok (.aload_n 0, 1) := by decide +kernel
theorem dX6_at_6 : decode cX6_at 6 = .ok (.arraylength, 1) := by decide +kernel
theorem dX6_at_7 : decode cX6_at 7 = .ok (.if_icmp .ge 9, 3) := by decide +kernel
theorem dX6_at_10 : decode cX6_at 10 = .ok (.aload_n 0, 1) := by decide +kernel
theorem dX6_at_11 : decode cX6_at 11 = .ok (.iload_n 1, 1) := by decide +kernel
theorem dX6_at_12 : decode cX6_at 12 = .ok (.iaload, 1) := by decide +kernel
theorem dX6_at_13 : decode cX6_at 13 = .ok (.goto 4, 3) := by decide +kernel
theorem dX6_at_16 : decode cX6_at 16 = .ok (.iconst (-1), 1) := by decide +kernel
theorem dX6_at_17 : decode cX6_at 17 = .ok (.ireturn, 1) := by decide +kernel
theorem dX6_setAt_0 : decode cX6_setAt 0 = .ok (.iload_n 1, 1) := by decide +kernel
theorem dX6_setAt_1 : decode cX6_setAt 1 = .ok (.ifCond .lt 13, 3) := by decide +kernel
theorem dX6_setAt_4 : decode cX6_setAt 4 = .ok (.iload_n 1, 1) := by decide +kernel
theorem dX6_setAt_5 : decode cX6_setAt 5 = .ok (.aload_n 0, 1) := by decide +kernel
theorem dX6_setAt_6 : decode cX6_setAt 6 = .ok (.arraylength, 1) := by decide +kernel
theorem dX6_setAt_7 : decode cX6_setAt 7 = .ok (.if_icmp .ge 7, 3) := by decide +kernel
theorem dX6_setAt_10 : decode cX6_setAt 10 = .ok (.aload_n 0, 1) := by decide +kernel
theorem dX6_setAt_11 : decode cX6_setAt 11 = .ok (.iload_n 1, 1) := by decide +kernel
theorem dX6_setAt_12 : decode cX6_setAt 12 = .ok (.iload_n 2, 1) := by decide +kernel
theorem dX6_setAt_13 : decode cX6_setAt 13 = .ok (.iastore, 1) := by decide +kernel
theorem dX6_setAt_14 : decode cX6_setAt 14 = .ok (.return_, 1) := by decide +kernel
theorem dX6_isArgument_0 : decode cX6_isArgument 0 = .ok (.iload_n 0, 1) := by decide +kernel
theorem dX6_isArgument_1 : decode cX6_isArgument 1 = .ok (.iconst (-1), 1) := by decide +kernel
theorem dX6_isArgument_2 : decode cX6_isArgument 2 = .ok (.if_icmp .eq 9, 3) := by decide +kernel
theorem dX6_isArgument_5 : decode cX6_isArgument 5 = .ok (.iload_n 0, 1) := by decide +kernel
theorem dX6_isArgument_6 : decode cX6_isArgument 6 = .ok (.bipush (-2), 2) := by decide +kernel
theorem dX6_isArgument_8 : decode cX6_isArgument 8 = .ok (.if_icmp .ne 7, 3) := by decide +kernel
theorem dX6_isArgument_11 : decode cX6_isArgument 11 = .ok (.iconst 1, 1) := by decide +kernel
theorem dX6_isArgument_12 : decode cX6_isArgument 12 = .ok (.goto 4, 3) := by decide +kernel
theorem dX6_isArgument_15 : decode cX6_isArgument 15 = .ok (.iconst 0, 1) := by decide +kernel
theorem dX6_isArgument_16 : decode cX6_isArgument 16 = .ok (.ireturn, 1) := by decide +kernel
theorem dX6_isReference_0 : decode cX6_isReference 0 = .ok (.iload_n 0, 1) := by decide +kernel
theorem dX6_isReference_1 : decode cX6_isReference 1 = .ok (.bipush 106, 2) := by decide +kernel
theorem dX6_isReference_3 : decode cX6_isReference 3 = .ok (.if_icmp .eq 15, 3) := by decide +kernel
theorem dX6_isReference_6 : decode cX6_isReference 6 = .ok (.iload_n 0, 1) := by decide +kernel
theorem dX6_isReference_7 : decode cX6_isReference 7 = .ok (.bipush 74, 2) := by decide +kernel
theorem dX6_isReference_9 : decode cX6_isReference 9 = .ok (.if_icmp .eq 9, 3) := by decide +kernel
theorem dX6_isReference_12 : decode cX6_isReference 12 = .ok (.iload_n 0, 1) := by decide +kernel
theorem dX6_isReference_13 : decode cX6_isReference 13 = .ok (.bipush 97, 2) := by decide +kernel
theorem dX6_isReference_15 : decode cX6_isReference 15 = .ok (.if_icmp .ne 7, 3) := by decide +kernel
theorem dX6_isReference_18 : decode cX6_isReference 18 = .ok (.iconst 1, 1) := by decide +kernel
theorem dX6_isReference_19 : decode cX6_isReference 19 = .ok (.goto 4, 3) := by decide +kernel
theorem dX6_isReference_22 : decode cX6_isReference 22 = .ok (.iconst 0, 1) := by decide +kernel
theorem dX6_isReference_23 : decode cX6_isReference 23 = .ok (.ireturn, 1) := by decide +kernel
theorem dX6_beginsGroup_0 : decode cX6_beginsGroup 0 = .ok (.iload_n 0, 1) := by decide +kernel
theorem dX6_beginsGroup_1 : decode cX6_beginsGroup 1 = .ok (.bipush 66, 2) := by decide +kernel
theorem dX6_beginsGroup_3 : decode cX6_beginsGroup 3 = .ok (.if_icmp .eq 15, 3) := by decide +kernel
theorem dX6_beginsGroup_6 : decode cX6_beginsGroup 6 = .ok (.iload_n 0, 1) := by decide +kernel
theorem dX6_beginsGroup_7 : decode cX6_beginsGroup 7 = .ok (.bipush 76, 2) := by decide +kernel
theorem dX6_beginsGroup_9 : decode cX6_beginsGroup 9 = .ok (.if_icmp .eq 9, 3) := by decide +kernel
theorem dX6_beginsGroup_12 : decode cX6_beginsGroup 12 = .ok (.iload_n 0, 1) := by decide +kernel
theorem dX6_beginsGroup_13 : decode cX6_beginsGroup 13 = .ok (.bipush 87, 2) := by decide +kernel
theorem dX6_beginsGroup_15 : decode cX6_beginsGroup 15 = .ok (.if_icmp .ne 7, 3) := by decide +kernel
theorem dX6_beginsGroup_18 : decode cX6_beginsGroup 18 = .ok (.iconst 1, 1) := by decide +kernel
theorem dX6_beginsGroup_19 : decode cX6_beginsGroup 19 = .ok (.goto 4, 3) := by decide +kernel
theorem dX6_beginsGroup_22 : decode cX6_beginsGroup 22 = .ok (.iconst 0, 1) := by decide +kernel
theorem dX6_beginsGroup_23 : decode cX6_beginsGroup 23 = .ok (.ireturn, 1) := by decide +kernel
theorem dX6_greatestOperand_0 : decode cX6_greatestOperand 0 = .ok (.iload_n 0, 1) := by decide +kernel
theorem dX6_greatestOperand_1 : decode cX6_greatestOperand 1 = .ok (.lookupswitch 88 #[(67, 78), (76, 85), (87, 78), (97, 75), (106, 75), (108, 75), (111, 82), (119, 78)], 75) := by decide +kernel
theorem dX6_greatestOperand_76 : decode cX6_greatestOperand 76 = .ok (.bipush 19, 2) := by decide +kernel
theorem dX6_greatestOperand_78 : decode cX6_greatestOperand 78 = .ok (.ireturn, 1) := by decide +kernel
theorem dX6_greatestOperand_79 : decode cX6_greatestOperand 79 = .ok (.sipush 999, 3) := by decide +kernel
theorem dX6_greatestOperand_82 : decode cX6_greatestOperand 82 = .ok (.ireturn, 1) := by decide +kernel
theorem dX6_greatestOperand_83 : decode cX6_greatestOperand 83 = .ok (.bipush 99, 2) := by decide +kernel
theorem dX6_greatestOperand_85 : decode cX6_greatestOperand 85 = .ok (.ireturn, 1) := by decide +kernel
theorem dX6_greatestOperand_86 : decode cX6_greatestOperand 86 = .ok (.bipush 9, 2) := by decide +kernel
theorem dX6_greatestOperand_88 : decode cX6_greatestOperand 88 = .ok (.ireturn, 1) := by decide +kernel
theorem dX6_greatestOperand_89 : decode cX6_greatestOperand 89 = .ok (.iconst 0, 1) := by decide +kernel
theorem dX6_greatestOperand_90 : decode cX6_greatestOperand 90 = .ok (.ireturn, 1) := by decide +kernel
theorem dX6_valueOfOperand_0 : decode cX6_valueOfOperand 0 = .ok (.iload_n 0, 1) := by decide +kernel
theorem dX6_valueOfOperand_1 : decode cX6_valueOfOperand 1 = .ok (.iconst (-1), 1) := by decide +kernel
theorem dX6_valueOfOperand_2 : decode cX6_valueOfOperand 2 = .ok (.if_icmp .ne 5, 3) := by decide +kernel
theorem dX6_valueOfOperand_5 : decode cX6_valueOfOperand 5 = .ok (.iload_n 1, 1) := by decide +kernel
theorem dX6_valueOfOperand_6 : decode cX6_valueOfOperand 6 = .ok (.ireturn, 1) := by decide +kernel
theorem dX6_valueOfOperand_7 : decode cX6_valueOfOperand 7 = .ok (.iload_n 0, 1) := by decide +kernel
theorem dX6_valueOfOperand_8 : decode cX6_valueOfOperand 8 = .ok (.bipush (-2), 2) := by decide +kernel
theorem dX6_valueOfOperand_10 : decode cX6_valueOfOperand 10 = .ok (.if_icmp .ne 7, 3) := by decide +kernel
theorem dX6_valueOfOperand_13 : decode cX6_valueOfOperand 13 = .ok (.iload_n 2, 1) := by decide +kernel
theorem dX6_valueOfOperand_14 : decode cX6_valueOfOperand 14 = .ok (.goto 4, 3) := by decide +kernel
theorem dX6_valueOfOperand_17 : decode cX6_valueOfOperand 17 = .ok (.iload_n 0, 1) := by decide +kernel
theorem dX6_valueOfOperand_18 : decode cX6_valueOfOperand 18 = .ok (.ireturn, 1) := by decide +kernel
theorem dJ7_rangeCheck_23922_0 : decode cJ7_rangeCheck_23922 0 = .ok (.iload_n 1, 1) := by decide +kernel
theorem dJ7_rangeCheck_23922_1 : decode cJ7_rangeCheck_23922 1 = .ok (.iload_n 2, 1) := by decide +kernel
theorem dJ7_rangeCheck_23922_2 : decode cJ7_rangeCheck_23922 2 = .ok (.if_icmp .le 44, 3) := by decide +kernel
theorem dJ7_rangeCheck_23922_5 : decode cJ7_rangeCheck_23922 5 = .ok (.new 43, 3) := by decide +kernel
theorem dJ7_rangeCheck_23922_8 : decode cJ7_rangeCheck_23922 8 = .ok (.dup, 1) := by decide +kernel
theorem dJ7_rangeCheck_23922_9 : decode cJ7_rangeCheck_23922 9 = .ok (.new 45, 3) := by decide +kernel
theorem dJ7_rangeCheck_23922_12 : decode cJ7_rangeCheck_23922 12 = .ok (.dup, 1) := by decide +kernel
theorem dJ7_rangeCheck_23922_13 : decode cJ7_rangeCheck_23922 13 = .ok (.invokespecial 47, 3) := by decide +kernel
theorem dJ7_rangeCheck_23922_16 : decode cJ7_rangeCheck_23922 16 = .ok (.ldc 48, 2) := by decide +kernel
theorem dJ7_rangeCheck_23922_18 : decode cJ7_rangeCheck_23922 18 = .ok (.invokevirtual 50, 3) := by decide +kernel
theorem dJ7_rangeCheck_23922_21 : decode cJ7_rangeCheck_23922 21 = .ok (.iload_n 1, 1) := by decide +kernel
theorem dJ7_rangeCheck_23922_22 : decode cJ7_rangeCheck_23922 22 = .ok (.invokevirtual 54, 3) := by decide +kernel
theorem dJ7_rangeCheck_23922_25 : decode cJ7_rangeCheck_23922 25 = .ok (.ldc 57, 2) := by decide +kernel
theorem dJ7_rangeCheck_23922_27 : decode cJ7_rangeCheck_23922 27 = .ok (.invokevirtual 50, 3) := by decide +kernel
theorem dJ7_rangeCheck_23922_30 : decode cJ7_rangeCheck_23922 30 = .ok (.iload_n 2, 1) := by decide +kernel
theorem dJ7_rangeCheck_23922_31 : decode cJ7_rangeCheck_23922 31 = .ok (.invokevirtual 54, 3) := by decide +kernel
theorem dJ7_rangeCheck_23922_34 : decode cJ7_rangeCheck_23922 34 = .ok (.ldc 59, 2) := by decide +kernel
theorem dJ7_rangeCheck_23922_36 : decode cJ7_rangeCheck_23922 36 = .ok (.invokevirtual 50, 3) := by decide +kernel
theorem dJ7_rangeCheck_23922_39 : decode cJ7_rangeCheck_23922 39 = .ok (.invokevirtual 61, 3) := by decide +kernel
theorem dJ7_rangeCheck_23922_42 : decode cJ7_rangeCheck_23922 42 = .ok (.invokespecial 65, 3) := by decide +kernel
theorem dJ7_rangeCheck_23922_45 : decode cJ7_rangeCheck_23922 45 = .ok (.athrow, 1) := by decide +kernel
theorem dJ7_rangeCheck_23922_46 : decode cJ7_rangeCheck_23922 46 = .ok (.iload_n 1, 1) := by decide +kernel
theorem dJ7_rangeCheck_23922_47 : decode cJ7_rangeCheck_23922 47 = .ok (.ifCond .ge 12, 3) := by decide +kernel
theorem dJ7_rangeCheck_23922_50 : decode cJ7_rangeCheck_23922 50 = .ok (.new 68, 3) := by decide +kernel
theorem dJ7_rangeCheck_23922_53 : decode cJ7_rangeCheck_23922 53 = .ok (.dup, 1) := by decide +kernel
theorem dJ7_rangeCheck_23922_54 : decode cJ7_rangeCheck_23922 54 = .ok (.iload_n 1, 1) := by decide +kernel
theorem dJ7_rangeCheck_23922_55 : decode cJ7_rangeCheck_23922 55 = .ok (.invokespecial 70, 3) := by decide +kernel
theorem dJ7_rangeCheck_23922_58 : decode cJ7_rangeCheck_23922 58 = .ok (.athrow, 1) := by decide +kernel
theorem dJ7_rangeCheck_23922_59 : decode cJ7_rangeCheck_23922 59 = .ok (.iload_n 2, 1) := by decide +kernel
theorem dJ7_rangeCheck_23922_60 : decode cJ7_rangeCheck_23922 60 = .ok (.iload_n 0, 1) := by decide +kernel
theorem dJ7_rangeCheck_23922_61 : decode cJ7_rangeCheck_23922 61 = .ok (.if_icmp .le 12, 3) := by decide +kernel
theorem dJ7_rangeCheck_23922_64 : decode cJ7_rangeCheck_23922 64 = .ok (.new 68, 3) := by decide +kernel
theorem dJ7_rangeCheck_23922_67 : decode cJ7_rangeCheck_23922 67 = .ok (.dup, 1) := by decide +kernel
theorem dJ7_rangeCheck_23922_68 : decode cJ7_rangeCheck_23922 68 = .ok (.iload_n 2, 1) := by decide +kernel
theorem dJ7_rangeCheck_23922_69 : decode cJ7_rangeCheck_23922 69 = .ok (.invokespecial 70, 3) := by decide +kernel
theorem dJ7_rangeCheck_23922_72 : decode cJ7_rangeCheck_23922 72 = .ok (.athrow, 1) := by decide +kernel
theorem dJ7_rangeCheck_23922_73 : decode cJ7_rangeCheck_23922 73 = .ok (.return_, 1) := by decide +kernel
theorem dJ7_fill_fda19_0 : decode cJ7_fill_fda19 0 = .ok (.aload_n 0, 1) := by decide +kernel
theorem dJ7_fill_fda19_1 : decode cJ7_fill_fda19 1 = .ok (.arraylength, 1) := by decide +kernel
theorem dJ7_fill_fda19_2 : decode cJ7_fill_fda19 2 = .ok (.iload_n 1, 1) := by decide +kernel
theorem dJ7_fill_fda19_3 : decode cJ7_fill_fda19 3 = .ok (.iload_n 2, 1) := by decide +kernel
theorem dJ7_fill_fda19_4 : decode cJ7_fill_fda19 4 = .ok (.invokestatic 13, 3) := by decide +kernel
theorem dJ7_fill_fda19_7 : decode cJ7_fill_fda19 7 = .ok (.iload_n 1, 1) := by decide +kernel
theorem dJ7_fill_fda19_8 : decode cJ7_fill_fda19 8 = .ok (.istore 4, 2) := by decide +kernel
theorem dJ7_fill_fda19_10 : decode cJ7_fill_fda19 10 = .ok (.iload 4, 2) := by decide +kernel
theorem dJ7_fill_fda19_12 : decode cJ7_fill_fda19 12 = .ok (.iload_n 2, 1) := by decide +kernel
theorem dJ7_fill_fda19_13 : decode cJ7_fill_fda19 13 = .ok (.if_icmp .ge 14, 3) := by decide +kernel
theorem dJ7_fill_fda19_16 : decode cJ7_fill_fda19 16 = .ok (.aload_n 0, 1) := by decide +kernel
theorem dJ7_fill_fda19_17 : decode cJ7_fill_fda19 17 = .ok (.iload 4, 2) := by decide +kernel
theorem dJ7_fill_fda19_19 : decode cJ7_fill_fda19 19 = .ok (.iload_n 3, 1) := by decide +kernel
theorem dJ7_fill_fda19_20 : decode cJ7_fill_fda19 20 = .ok (.iastore, 1) := by decide +kernel
theorem dJ7_fill_fda19_21 : decode cJ7_fill_fda19 21 = .ok (.iinc 4 1, 3) := by decide +kernel
theorem dJ7_fill_fda19_24 : decode cJ7_fill_fda19 24 = .ok (.goto (-14), 3) := by decide +kernel
theorem dJ7_fill_fda19_27 : decode cJ7_fill_fda19 27 = .ok (.return_, 1) := by decide +kernel
theorem dJ7_copyOf_9075b_0 : decode cJ7_copyOf_9075b 0 = .ok (.iload_n 1, 1) := by decide +kernel
theorem dJ7_copyOf_9075b_1 : decode cJ7_copyOf_9075b 1 = .ok (.aload_n 0, 1) := by decide +kernel
theorem dJ7_copyOf_9075b_2 : decode cJ7_copyOf_9075b 2 = .ok (.arraylength, 1) := by decide +kernel
theorem dJ7_copyOf_9075b_3 : decode cJ7_copyOf_9075b 3 = .ok (.if_icmp .ne 11, 3) := by decide +kernel
theorem dJ7_copyOf_9075b_6 : decode cJ7_copyOf_9075b 6 = .ok (.aload_n 0, 1) := by decide +kernel
theorem dJ7_copyOf_9075b_7 : decode cJ7_copyOf_9075b 7 = .ok (.invokevirtual 310, 3) := by decide +kernel
theorem dJ7_copyOf_9075b_10 : decode cJ7_copyOf_9075b 10 = .ok (.checkcast 311, 3) := by decide +kernel
theorem dJ7_copyOf_9075b_13 : decode cJ7_copyOf_9075b 13 = .ok (.areturn, 1) := by decide +kernel
theorem dJ7_copyOf_9075b_14 : decode cJ7_copyOf_9075b 14 = .ok (.iload_n 1, 1) := by decide +kernel
theorem dJ7_copyOf_9075b_15 : decode cJ7_copyOf_9075b 15 = .ok (.newarray .byte, 2) := by decide +kernel
theorem dJ7_copyOf_9075b_17 : decode cJ7_copyOf_9075b 17 = .ok (.astore_n 2, 1) := by decide +kernel
theorem dJ7_copyOf_9075b_18 : decode cJ7_copyOf_9075b 18 = .ok (.aload_n 0, 1) := by decide +kernel
theorem dJ7_copyOf_9075b_19 : decode cJ7_copyOf_9075b 19 = .ok (.iconst 0, 1) := by decide +kernel
theorem dJ7_copyOf_9075b_20 : decode cJ7_copyOf_9075b 20 = .ok (.aload_n 2, 1) := by decide +kernel
theorem dJ7_copyOf_9075b_21 : decode cJ7_copyOf_9075b 21 = .ok (.iconst 0, 1) := by decide +kernel
theorem dJ7_copyOf_9075b_22 : decode cJ7_copyOf_9075b 22 = .ok (.aload_n 0, 1) := by decide +kernel
theorem dJ7_copyOf_9075b_23 : decode cJ7_copyOf_9075b 23 = .ok (.arraylength, 1) := by decide +kernel
theorem dJ7_copyOf_9075b_24 : decode cJ7_copyOf_9075b 24 = .ok (.iload_n 1, 1) := by decide +kernel
theorem dJ7_copyOf_9075b_25 : decode cJ7_copyOf_9075b 25 = .ok (.invokestatic 304, 3) := by decide +kernel
theorem dJ7_copyOf_9075b_28 : decode cJ7_copyOf_9075b 28 = .ok (.invokestatic 150, 3) := by decide +kernel
theorem dJ7_copyOf_9075b_31 : decode cJ7_copyOf_9075b 31 = .ok (.aload_n 2, 1) := by decide +kernel
theorem dJ7_copyOf_9075b_32 : decode cJ7_copyOf_9075b 32 = .ok (.areturn, 1) := by decide +kernel
theorem dJ7_checkLength_df160_0 : decode cJ7_checkLength_df160 0 = .ok (.iload_n 1, 1) := by decide +kernel
theorem dJ7_checkLength_df160_1 : decode cJ7_checkLength_df160 1 = .ok (.iload_n 0, 1) := by decide +kernel
theorem dJ7_checkLength_df160_2 : decode cJ7_checkLength_df160 2 = .ok (.if_icmp .ge 35, 3) := by decide +kernel
theorem dJ7_checkLength_df160_5 : decode cJ7_checkLength_df160 5 = .ok (.new 43, 3) := by decide +kernel
theorem dJ7_checkLength_df160_8 : decode cJ7_checkLength_df160 8 = .ok (.dup, 1) := by decide +kernel
theorem dJ7_checkLength_df160_9 : decode cJ7_checkLength_df160 9 = .ok (.new 45, 3) := by decide +kernel
theorem dJ7_checkLength_df160_12 : decode cJ7_checkLength_df160 12 = .ok (.dup, 1) := by decide +kernel
theorem dJ7_checkLength_df160_13 : decode cJ7_checkLength_df160 13 = .ok (.invokespecial 47, 3) := by decide +kernel
theorem dJ7_checkLength_df160_16 : decode cJ7_checkLength_df160 16 = .ok (.iload_n 0, 1) := by decide +kernel
theorem dJ7_checkLength_df160_17 : decode cJ7_checkLength_df160 17 = .ok (.invokevirtual 54, 3) := by decide +kernel
theorem dJ7_checkLength_df160_20 : decode cJ7_checkLength_df160 20 = .ok (.ldc_w 337, 3) := by decide +kernel
theorem dJ7_checkLength_df160_23 : decode cJ7_checkLength_df160 23 = .ok (.invokevirtual 50, 3) := by decide +kernel
theorem dJ7_checkLength_df160_26 : decode cJ7_checkLength_df160 26 = .ok (.iload_n 1, 1) := by decide +kernel
theorem dJ7_checkLength_df160_27 : decode cJ7_checkLength_df160 27 = .ok (.invokevirtual 54, 3) := by decide +kernel
theorem dJ7_checkLength_df160_30 : decode cJ7_checkLength_df160 30 = .ok (.invokevirtual 61, 3) := by decide +kernel
theorem dJ7_checkLength_df160_33 : decode cJ7_checkLength_df160 33 = .ok (.invokespecial 65, 3) := by decide +kernel
theorem dJ7_checkLength_df160_36 : decode cJ7_checkLength_df160 36 = .ok (.athrow, 1) := by decide +kernel
theorem dJ7_checkLength_df160_37 : decode cJ7_checkLength_df160 37 = .ok (.return_, 1) := by decide +kernel
theorem dJ7_copyOfRange_39247_0 : decode cJ7_copyOfRange_39247 0 = .ok (.iload_n 1, 1) := by decide +kernel
theorem dJ7_copyOfRange_39247_1 : decode cJ7_copyOfRange_39247 1 = .ok (.ifCond .ne 9, 3) := by decide +kernel
theorem dJ7_copyOfRange_39247_4 : decode cJ7_copyOfRange_39247 4 = .ok (.iload_n 2, 1) := by decide +kernel
theorem dJ7_copyOfRange_39247_5 : decode cJ7_copyOfRange_39247 5 = .ok (.aload_n 0, 1) := by decide +kernel
theorem dJ7_copyOfRange_39247_6 : decode cJ7_copyOfRange_39247 6 = .ok (.arraylength, 1) := by decide +kernel
theorem dJ7_copyOfRange_39247_7 : decode cJ7_copyOfRange_39247 7 = .ok (.if_icmp .eq 10, 3) := by decide +kernel
theorem dJ7_copyOfRange_39247_10 : decode cJ7_copyOfRange_39247 10 = .ok (.aload_n 0, 1) := by decide +kernel
theorem dJ7_copyOfRange_39247_11 : decode cJ7_copyOfRange_39247 11 = .ok (.iload_n 1, 1) := by decide +kernel
theorem dJ7_copyOfRange_39247_12 : decode cJ7_copyOfRange_39247 12 = .ok (.iload_n 2, 1) := by decide +kernel
theorem dJ7_copyOfRange_39247_13 : decode cJ7_copyOfRange_39247 13 = .ok (.invokestatic 339, 3) := by decide +kernel
theorem dJ7_copyOfRange_39247_16 : decode cJ7_copyOfRange_39247 16 = .ok (.areturn, 1) := by decide +kernel
theorem dJ7_copyOfRange_39247_17 : decode cJ7_copyOfRange_39247 17 = .ok (.aload_n 0, 1) := by decide +kernel
theorem dJ7_copyOfRange_39247_18 : decode cJ7_copyOfRange_39247 18 = .ok (.invokevirtual 310, 3) := by decide +kernel
theorem dJ7_copyOfRange_39247_21 : decode cJ7_copyOfRange_39247 21 = .ok (.checkcast 311, 3) := by decide +kernel
theorem dJ7_copyOfRange_39247_24 : decode cJ7_copyOfRange_39247 24 = .ok (.areturn, 1) := by decide +kernel
theorem dJ7_copyOfRangeByte_39247_0 : decode cJ7_copyOfRangeByte_39247 0 = .ok (.iload_n 1, 1) := by decide +kernel
theorem dJ7_copyOfRangeByte_39247_1 : decode cJ7_copyOfRangeByte_39247 1 = .ok (.iload_n 2, 1) := by decide +kernel
theorem dJ7_copyOfRangeByte_39247_2 : decode cJ7_copyOfRangeByte_39247 2 = .ok (.invokestatic 343, 3) := by decide +kernel
theorem dJ7_copyOfRangeByte_39247_5 : decode cJ7_copyOfRangeByte_39247 5 = .ok (.iload_n 2, 1) := by decide +kernel
theorem dJ7_copyOfRangeByte_39247_6 : decode cJ7_copyOfRangeByte_39247 6 = .ok (.iload_n 1, 1) := by decide +kernel
theorem dJ7_copyOfRangeByte_39247_7 : decode cJ7_copyOfRangeByte_39247 7 = .ok (.isub, 1) := by decide +kernel
theorem dJ7_copyOfRangeByte_39247_8 : decode cJ7_copyOfRangeByte_39247 8 = .ok (.istore_n 3, 1) := by decide +kernel
theorem dJ7_copyOfRangeByte_39247_9 : decode cJ7_copyOfRangeByte_39247 9 = .ok (.iload_n 3, 1) := by decide +kernel
theorem dJ7_copyOfRangeByte_39247_10 : decode cJ7_copyOfRangeByte_39247 10 = .ok (.newarray .byte, 2) := by decide +kernel
theorem dJ7_copyOfRangeByte_39247_12 : decode cJ7_copyOfRangeByte_39247 12 = .ok (.astore 4, 2) := by decide +kernel
theorem dJ7_copyOfRangeByte_39247_14 : decode cJ7_copyOfRangeByte_39247 14 = .ok (.aload_n 0, 1) := by decide +kernel
theorem dJ7_copyOfRangeByte_39247_15 : decode cJ7_copyOfRangeByte_39247 15 = .ok (.iload_n 1, 1) := by decide +kernel
theorem dJ7_copyOfRangeByte_39247_16 : decode cJ7_copyOfRangeByte_39247 16 = .ok (.aload 4, 2) := by decide +kernel
theorem dJ7_copyOfRangeByte_39247_18 : decode cJ7_copyOfRangeByte_39247 18 = .ok (.iconst 0, 1) := by decide +kernel
theorem dJ7_copyOfRangeByte_39247_19 : decode cJ7_copyOfRangeByte_39247 19 = .ok (.aload_n 0, 1) := by decide +kernel
theorem dJ7_copyOfRangeByte_39247_20 : decode cJ7_copyOfRangeByte_39247 20 = .ok (.arraylength, 1) := by decide +kernel
theorem dJ7_copyOfRangeByte_39247_21 : decode cJ7_copyOfRangeByte_39247 21 = .ok (.iload_n 1, 1) := by decide +kernel
theorem dJ7_copyOfRangeByte_39247_22 : decode cJ7_copyOfRangeByte_39247 22 = .ok (.isub, 1) := by decide +kernel
theorem dJ7_copyOfRangeByte_39247_23 : decode cJ7_copyOfRangeByte_39247 23 = .ok (.iload_n 3, 1) := by decide +kernel
theorem dJ7_copyOfRangeByte_39247_24 : decode cJ7_copyOfRangeByte_39247 24 = .ok (.invokestatic 304, 3) := by decide +kernel
theorem dJ7_copyOfRangeByte_39247_27 : decode cJ7_copyOfRangeByte_39247 27 = .ok (.invokestatic 150, 3) := by decide +kernel
theorem dJ7_copyOfRangeByte_39247_30 : decode cJ7_copyOfRangeByte_39247 30 = .ok (.aload 4, 2) := by decide +kernel
theorem dJ7_copyOfRangeByte_39247_32 : decode cJ7_copyOfRangeByte_39247 32 = .ok (.areturn, 1) := by decide +kernel
theorem dL_cell_0 : decode cL_cell 0 = .ok (.iload_n 1, 1) := by decide +kernel
theorem dL_cell_1 : decode cL_cell 1 = .ok (.aload_n 0, 1) := by decide +kernel
theorem dL_cell_2 : decode cL_cell 2 = .ok (.arraylength, 1) := by decide +kernel
theorem dL_cell_3 : decode cL_cell 3 = .ok (.if_icmp .ge 9, 3) := by decide +kernel
theorem dL_cell_6 : decode cL_cell 6 = .ok (.aload_n 0, 1) := by decide +kernel
theorem dL_cell_7 : decode cL_cell 7 = .ok (.iload_n 1, 1) := by decide +kernel
theorem dL_cell_8 : decode cL_cell 8 = .ok (.iaload, 1) := by decide +kernel
theorem dL_cell_9 : decode cL_cell 9 = .ok (.goto 7, 3) := by decide +kernel
theorem dL_cell_12 : decode cL_cell 12 = .ok (.ldc 7, 2) := by decide +kernel
theorem dL_cell_14 : decode cL_cell 14 = .ok (.iload_n 1, 1) := by decide +kernel
theorem dL_cell_15 : decode cL_cell 15 = .ok (.imul, 1) := by decide +kernel
theorem dL_cell_16 : decode cL_cell 16 = .ok (.ireturn, 1) := by decide +kernel
theorem dL_pick_0 : decode cL_pick 0 = .ok (.aload_n 0, 1) := by decide +kernel
theorem dL_pick_1 : decode cL_pick 1 = .ok (.iload_n 1, 1) := by decide +kernel
theorem dL_pick_2 : decode cL_pick 2 = .ok (.invokestatic 8, 3) := by decide +kernel
theorem dL_pick_5 : decode cL_pick 5 = .ok (.iconst 1, 1) := by decide +kernel
theorem dL_pick_6 : decode cL_pick 6 = .ok (.iushr, 1) := by decide +kernel
theorem dL_pick_7 : decode cL_pick 7 = .ok (.iload_n 2, 1) := by decide +kernel
theorem dL_pick_8 : decode cL_pick 8 = .ok (.irem, 1) := by decide +kernel
theorem dL_pick_9 : decode cL_pick 9 = .ok (.ireturn, 1) := by decide +kernel
theorem dL_label_0 : decode cL_label 0 = .ok (.aload_n 0, 1) := by decide +kernel
theorem dL_label_1 : decode cL_label 1 = .ok (.iload_n 1, 1) := by decide +kernel
theorem dL_label_2 : decode cL_label 2 = .ok (.invokevirtual 14, 3) := by decide +kernel
theorem dL_label_5 : decode cL_label 5 = .ok (.ireturn, 1) := by decide +kernel
theorem dL_label_6 : decode cL_label 6 = .ok (.astore_n 2, 1) := by decide +kernel
theorem dL_label_7 : decode cL_label 7 = .ok (.bipush (-78), 2) := by decide +kernel
theorem dL_label_9 : decode cL_label 9 = .ok (.ireturn, 1) := by decide +kernel
theorem dL_label_10 : decode cL_label 10 = .ok (.astore_n 2, 1) := by decide +kernel
theorem dL_label_11 : decode cL_label 11 = .ok (.bipush (-79), 2) := by decide +kernel
theorem dL_label_13 : decode cL_label 13 = .ok (.ireturn, 1) := by decide +kernel
theorem dL_word_0 : decode cL_word 0 = .ok (.aload_n 0, 1) := by decide +kernel
theorem dL_word_1 : decode cL_word 1 = .ok (.iload_n 1, 1) := by decide +kernel
theorem dL_word_2 : decode cL_word 2 = .ok (.invokevirtual 24, 3) := by decide +kernel
theorem dL_word_5 : decode cL_word 5 = .ok (.ireturn, 1) := by decide +kernel
theorem dL_word_6 : decode cL_word 6 = .ok (.astore_n 2, 1) := by decide +kernel
theorem dL_word_7 : decode cL_word 7 = .ok (.bipush (-78), 2) := by decide +kernel
theorem dL_word_9 : decode cL_word 9 = .ok (.ireturn, 1) := by decide +kernel
theorem dL_word_10 : decode cL_word 10 = .ok (.astore_n 2, 1) := by decide +kernel
theorem dL_word_11 : decode cL_word 11 = .ok (.bipush (-79), 2) := by decide +kernel
theorem dL_word_13 : decode cL_word 13 = .ok (.ireturn, 1) := by decide +kernel
theorem dL_operation_0 : decode cL_operation 0 = .ok (.aload_n 0, 1) := by decide +kernel
theorem dL_operation_1 : decode cL_operation 1 = .ok (.iload_n 1, 1) := by decide +kernel
theorem dL_operation_2 : decode cL_operation 2 = .ok (.iload_n 2, 1) := by decide +kernel
theorem dL_operation_3 : decode cL_operation 3 = .ok (.invokevirtual 27, 3) := by decide +kernel
theorem dL_operation_6 : decode cL_operation 6 = .ok (.ireturn, 1) := by decide +kernel
theorem dL_operation_7 : decode cL_operation 7 = .ok (.astore_n 3, 1) := by decide +kernel
theorem dL_operation_8 : decode cL_operation 8 = .ok (.bipush (-78), 2) := by decide +kernel
theorem dL_operation_10 : decode cL_operation 10 = .ok (.ireturn, 1) := by decide +kernel
theorem dL_operation_11 : decode cL_operation 11 = .ok (.astore_n 3, 1) := by decide +kernel
theorem dL_operation_12 : decode cL_operation 12 = .ok (.bipush (-79), 2) := by decide +kernel
theorem dL_operation_14 : decode cL_operation 14 = .ok (.ireturn, 1) := by decide +kernel
theorem dL_jump_0 : decode cL_jump 0 = .ok (.aload_n 0, 1) := by decide +kernel
theorem dL_jump_1 : decode cL_jump 1 = .ok (.iload_n 1, 1) := by decide +kernel
theorem dL_jump_2 : decode cL_jump 2 = .ok (.invokevirtual 31, 3) := by decide +kernel
theorem dL_jump_5 : decode cL_jump 5 = .ok (.ireturn, 1) := by decide +kernel
theorem dL_jump_6 : decode cL_jump 6 = .ok (.astore_n 2, 1) := by decide +kernel
theorem dL_jump_7 : decode cL_jump 7 = .ok (.bipush (-78), 2) := by decide +kernel
theorem dL_jump_9 : decode cL_jump 9 = .ok (.ireturn, 1) := by decide +kernel
theorem dL_jump_10 : decode cL_jump 10 = .ok (.astore_n 2, 1) := by decide +kernel
theorem dL_jump_11 : decode cL_jump 11 = .ok (.bipush (-79), 2) := by decide +kernel
theorem dL_jump_13 : decode cL_jump 13 = .ok (.ireturn, 1) := by decide +kernel
theorem dL_address_0 : decode cL_address 0 = .ok (.aload_n 0, 1) := by decide +kernel
theorem dL_address_1 : decode cL_address 1 = .ok (.iload_n 1, 1) := by decide +kernel
theorem dL_address_2 : decode cL_address 2 = .ok (.invokevirtual 34, 3) := by decide +kernel
theorem dL_address_5 : decode cL_address 5 = .ok (.ireturn, 1) := by decide +kernel
theorem dL_address_6 : decode cL_address 6 = .ok (.astore_n 2, 1) := by decide +kernel
theorem dL_address_7 : decode cL_address 7 = .ok (.bipush (-78), 2) := by decide +kernel
theorem dL_address_9 : decode cL_address 9 = .ok (.ireturn, 1) := by decide +kernel
theorem dL_address_10 : decode cL_address 10 = .ok (.astore_n 2, 1) := by decide +kernel
theorem dL_address_11 : decode cL_address 11 = .ok (.bipush (-79), 2) := by decide +kernel
theorem dL_address_13 : decode cL_address 13 = .ok (.ireturn, 1) := by decide +kernel
theorem dL_align_0 : decode cL_align 0 = .ok (.aload_n 0, 1) := by decide +kernel
theorem dL_align_1 : decode cL_align 1 = .ok (.iload_n 1, 1) := by decide +kernel
theorem dL_align_2 : decode cL_align 2 = .ok (.invokevirtual 37, 3) := by decide +kernel
theorem dL_align_5 : decode cL_align 5 = .ok (.ireturn, 1) := by decide +kernel
theorem dL_align_6 : decode cL_align 6 = .ok (.astore_n 2, 1) := by decide +kernel
theorem dL_align_7 : decode cL_align 7 = .ok (.bipush (-78), 2) := by decide +kernel
theorem dL_align_9 : decode cL_align 9 = .ok (.ireturn, 1) := by decide +kernel
theorem dL_align_10 : decode cL_align 10 = .ok (.astore_n 2, 1) := by decide +kernel
theorem dL_align_11 : decode cL_align 11 = .ok (.bipush (-79), 2) := by decide +kernel
theorem dL_align_13 : decode cL_align 13 = .ok (.ireturn, 1) := by decide +kernel
theorem dL_call_0 : decode cL_call 0 = .ok (.aload_n 0, 1) := by decide +kernel
theorem dL_call_1 : decode cL_call 1 = .ok (.iload_n 1, 1) := by decide +kernel
theorem dL_call_2 : decode cL_call 2 = .ok (.iload_n 2, 1) := by decide +kernel
theorem dL_call_3 : decode cL_call 3 = .ok (.iload_n 3, 1) := by decide +kernel
theorem dL_call_4 : decode cL_call 4 = .ok (.invokevirtual 40, 3) := by decide +kernel
theorem dL_call_7 : decode cL_call 7 = .ok (.ireturn, 1) := by decide +kernel
theorem dL_call_8 : decode cL_call 8 = .ok (.astore 4, 2) := by decide +kernel
theorem dL_call_10 : decode cL_call 10 = .ok (.bipush (-75), 2) := by decide +kernel
theorem dL_call_12 : decode cL_call 12 = .ok (.ireturn, 1) := by decide +kernel
theorem dL_call_13 : decode cL_call 13 = .ok (.astore 4, 2) := by decide +kernel
theorem dL_call_15 : decode cL_call 15 = .ok (.bipush (-78), 2) := by decide +kernel
theorem dL_call_17 : decode cL_call 17 = .ok (.ireturn, 1) := by decide +kernel
theorem dL_call_18 : decode cL_call 18 = .ok (.astore 4, 2) := by decide +kernel
theorem dL_call_20 : decode cL_call 20 = .ok (.bipush (-79), 2) := by decide +kernel
theorem dL_call_22 : decode cL_call 22 = .ok (.ireturn, 1) := by decide +kernel
theorem dL_block_0 : decode cL_block 0 = .ok (.aload_n 0, 1) := by decide +kernel
theorem dL_block_1 : decode cL_block 1 = .ok (.invokevirtual 46, 3) := by decide +kernel
theorem dL_block_4 : decode cL_block 4 = .ok (.ireturn, 1) := by decide +kernel
theorem dL_block_5 : decode cL_block 5 = .ok (.astore_n 1, 1) := by decide +kernel
theorem dL_block_6 : decode cL_block 6 = .ok (.bipush (-79), 2) := by decide +kernel
theorem dL_block_8 : decode cL_block 8 = .ok (.ireturn, 1) := by decide +kernel
theorem dL_loop_0 : decode cL_loop 0 = .ok (.aload_n 0, 1) := by decide +kernel
theorem dL_loop_1 : decode cL_loop 1 = .ok (.iload_n 1, 1) := by decide +kernel
theorem dL_loop_2 : decode cL_loop 2 = .ok (.invokevirtual 50, 3) := by decide +kernel
theorem dL_loop_5 : decode cL_loop 5 = .ok (.ireturn, 1) := by decide +kernel
theorem dL_loop_6 : decode cL_loop 6 = .ok (.astore_n 2, 1) := by decide +kernel
theorem dL_loop_7 : decode cL_loop 7 = .ok (.bipush (-78), 2) := by decide +kernel
theorem dL_loop_9 : decode cL_loop 9 = .ok (.ireturn, 1) := by decide +kernel
theorem dL_loop_10 : decode cL_loop 10 = .ok (.astore_n 2, 1) := by decide +kernel
theorem dL_loop_11 : decode cL_loop 11 = .ok (.bipush (-79), 2) := by decide +kernel
theorem dL_loop_13 : decode cL_loop 13 = .ok (.ireturn, 1) := by decide +kernel
theorem dL_when_0 : decode cL_when 0 = .ok (.aload_n 0, 1) := by decide +kernel
theorem dL_when_1 : decode cL_when 1 = .ok (.iload_n 1, 1) := by decide +kernel
theorem dL_when_2 : decode cL_when 2 = .ok (.iload_n 2, 1) := by decide +kernel
theorem dL_when_3 : decode cL_when 3 = .ok (.invokevirtual 53, 3) := by decide +kernel
theorem dL_when_6 : decode cL_when 6 = .ok (.ireturn, 1) := by decide +kernel
theorem dL_when_7 : decode cL_when 7 = .ok (.astore_n 3, 1) := by decide +kernel
theorem dL_when_8 : decode cL_when 8 = .ok (.bipush (-78), 2) := by decide +kernel
theorem dL_when_10 : decode cL_when 10 = .ok (.ireturn, 1) := by decide +kernel
theorem dL_when_11 : decode cL_when 11 = .ok (.astore_n 3, 1) := by decide +kernel
theorem dL_when_12 : decode cL_when 12 = .ok (.bipush (-79), 2) := by decide +kernel
theorem dL_when_14 : decode cL_when 14 = .ok (.ireturn, 1) := by decide +kernel
theorem dL_end_0 : decode cL_end 0 = .ok (.aload_n 0, 1) := by decide +kernel
theorem dL_end_1 : decode cL_end 1 = .ok (.invokevirtual 56, 3) := by decide +kernel
theorem dL_end_4 : decode cL_end 4 = .ok (.ireturn, 1) := by decide +kernel
theorem dL_end_5 : decode cL_end 5 = .ok (.astore_n 1, 1) := by decide +kernel
theorem dL_end_6 : decode cL_end 6 = .ok (.bipush (-76), 2) := by decide +kernel
theorem dL_end_8 : decode cL_end 8 = .ok (.ireturn, 1) := by decide +kernel
theorem dL_end_9 : decode cL_end 9 = .ok (.astore_n 1, 1) := by decide +kernel
theorem dL_end_10 : decode cL_end 10 = .ok (.bipush (-79), 2) := by decide +kernel
theorem dL_end_12 : decode cL_end 12 = .ok (.ireturn, 1) := by decide +kernel
theorem dL_macro_0 : decode cL_macro 0 = .ok (.aload_n 0, 1) := by decide +kernel
theorem dL_macro_1 : decode cL_macro 1 = .ok (.invokevirtual 61, 3) := by decide +kernel
theorem dL_macro_4 : decode cL_macro 4 = .ok (.ireturn, 1) := by decide +kernel
theorem dL_macro_5 : decode cL_macro 5 = .ok (.astore_n 1, 1) := by decide +kernel
theorem dL_macro_6 : decode cL_macro 6 = .ok (.bipush (-76), 2) := by decide +kernel
theorem dL_macro_8 : decode cL_macro 8 = .ok (.ireturn, 1) := by decide +kernel
theorem dL_macro_9 : decode cL_macro 9 = .ok (.astore_n 1, 1) := by decide +kernel
theorem dL_macro_10 : decode cL_macro 10 = .ok (.bipush (-79), 2) := by decide +kernel
theorem dL_macro_12 : decode cL_macro 12 = .ok (.ireturn, 1) := by decide +kernel
theorem dL_endMacro_0 : decode cL_endMacro 0 = .ok (.aload_n 0, 1) := by decide +kernel
theorem dL_endMacro_1 : decode cL_endMacro 1 = .ok (.invokevirtual 64, 3) := by decide +kernel
theorem dL_endMacro_4 : decode cL_endMacro 4 = .ok (.ireturn, 1) := by decide +kernel
theorem dL_endMacro_5 : decode cL_endMacro 5 = .ok (.astore_n 1, 1) := by decide +kernel
theorem dL_endMacro_6 : decode cL_endMacro 6 = .ok (.bipush (-76), 2) := by decide +kernel
theorem dL_endMacro_8 : decode cL_endMacro 8 = .ok (.ireturn, 1) := by decide +kernel
theorem dL_endMacro_9 : decode cL_endMacro 9 = .ok (.astore_n 1, 1) := by decide +kernel
theorem dL_endMacro_10 : decode cL_endMacro 10 = .ok (.bipush (-79), 2) := by decide +kernel
theorem dL_endMacro_12 : decode cL_endMacro 12 = .ok (.ireturn, 1) := by decide +kernel
theorem dL_fault_0 : decode cL_fault 0 = .ok (.aload_n 0, 1) := by decide +kernel
theorem dL_fault_1 : decode cL_fault 1 = .ok (.invokevirtual 67, 3) := by decide +kernel
theorem dL_fault_4 : decode cL_fault 4 = .ok (.ireturn, 1) := by decide +kernel
theorem dL_fault_5 : decode cL_fault 5 = .ok (.astore_n 1, 1) := by decide +kernel
theorem dL_fault_6 : decode cL_fault 6 = .ok (.bipush (-75), 2) := by decide +kernel
theorem dL_fault_8 : decode cL_fault 8 = .ok (.ireturn, 1) := by decide +kernel
theorem dL_faultLine_0 : decode cL_faultLine 0 = .ok (.aload_n 0, 1) := by decide +kernel
theorem dL_faultLine_1 : decode cL_faultLine 1 = .ok (.invokevirtual 71, 3) := by decide +kernel
theorem dL_faultLine_4 : decode cL_faultLine 4 = .ok (.ireturn, 1) := by decide +kernel
theorem dL_faultLine_5 : decode cL_faultLine 5 = .ok (.astore_n 1, 1) := by decide +kernel
theorem dL_faultLine_6 : decode cL_faultLine 6 = .ok (.bipush (-75), 2) := by decide +kernel
theorem dL_faultLine_8 : decode cL_faultLine 8 = .ok (.ireturn, 1) := by decide +kernel
theorem dL_itemsByCounting_0 : decode cL_itemsByCounting 0 = .ok (.aload_n 0, 1) := by decide +kernel
theorem dL_itemsByCounting_1 : decode cL_itemsByCounting 1 = .ok (.invokevirtual 74, 3) := by decide +kernel
theorem dL_itemsByCounting_4 : decode cL_itemsByCounting 4 = .ok (.lreturn, 1) := by decide +kernel
theorem dL_itemsByCounting_5 : decode cL_itemsByCounting 5 = .ok (.astore_n 1, 1) := by decide +kernel
theorem dL_itemsByCounting_6 : decode cL_itemsByCounting 6 = .ok (.ldc2_w 78, 3) := by decide +kernel
theorem dL_itemsByCounting_9 : decode cL_itemsByCounting 9 = .ok (.lreturn, 1) := by decide +kernel
theorem dL_itemsByCounting_10 : decode cL_itemsByCounting 10 = .ok (.astore_n 1, 1) := by decide +kernel
theorem dL_itemsByCounting_11 : decode cL_itemsByCounting 11 = .ok (.ldc2_w 80, 3) := by decide +kernel
theorem dL_itemsByCounting_14 : decode cL_itemsByCounting 14 = .ok (.lreturn, 1) := by decide +kernel
theorem dL_words_0 : decode cL_words 0 = .ok (.aload_n 0, 1) := by decide +kernel
theorem dL_words_1 : decode cL_words 1 = .ok (.invokevirtual 82, 3) := by decide +kernel
theorem dL_words_4 : decode cL_words 4 = .ok (.ireturn, 1) := by decide +kernel
theorem dL_words_5 : decode cL_words 5 = .ok (.astore_n 1, 1) := by decide +kernel
theorem dL_words_6 : decode cL_words 6 = .ok (.bipush (-75), 2) := by decide +kernel
theorem dL_words_8 : decode cL_words 8 = .ok (.ireturn, 1) := by decide +kernel
theorem dL_wordAt_0 : decode cL_wordAt 0 = .ok (.aload_n 0, 1) := by decide +kernel
theorem dL_wordAt_1 : decode cL_wordAt 1 = .ok (.iload_n 1, 1) := by decide +kernel
theorem dL_wordAt_2 : decode cL_wordAt 2 = .ok (.invokevirtual 85, 3) := by decide +kernel
theorem dL_wordAt_5 : decode cL_wordAt 5 = .ok (.ireturn, 1) := by decide +kernel
theorem dL_wordAt_6 : decode cL_wordAt 6 = .ok (.astore_n 2, 1) := by decide +kernel
theorem dL_wordAt_7 : decode cL_wordAt 7 = .ok (.bipush (-75), 2) := by decide +kernel
theorem dL_wordAt_9 : decode cL_wordAt 9 = .ok (.ireturn, 1) := by decide +kernel
theorem dL_wordAt_10 : decode cL_wordAt 10 = .ok (.astore_n 2, 1) := by decide +kernel
theorem dL_wordAt_11 : decode cL_wordAt 11 = .ok (.bipush (-77), 2) := by decide +kernel
theorem dL_wordAt_13 : decode cL_wordAt 13 = .ok (.ireturn, 1) := by decide +kernel
theorem dL_relocations_0 : decode cL_relocations 0 = .ok (.aload_n 0, 1) := by decide +kernel
theorem dL_relocations_1 : decode cL_relocations 1 = .ok (.invokevirtual 90, 3) := by decide +kernel
theorem dL_relocations_4 : decode cL_relocations 4 = .ok (.ireturn, 1) := by decide +kernel
theorem dL_relocations_5 : decode cL_relocations 5 = .ok (.astore_n 1, 1) := by decide +kernel
theorem dL_relocations_6 : decode cL_relocations 6 = .ok (.bipush (-75), 2) := by decide +kernel
theorem dL_relocations_8 : decode cL_relocations 8 = .ok (.ireturn, 1) := by decide +kernel
theorem dL_loadedWord_0 : decode cL_loadedWord 0 = .ok (.aload_n 0, 1) := by decide +kernel
theorem dL_loadedWord_1 : decode cL_loadedWord 1 = .ok (.iload_n 1, 1) := by decide +kernel
theorem dL_loadedWord_2 : decode cL_loadedWord 2 = .ok (.iload_n 2, 1) := by decide +kernel
theorem dL_loadedWord_3 : decode cL_loadedWord 3 = .ok (.invokevirtual 93, 3) := by decide +kernel
theorem dL_loadedWord_6 : decode cL_loadedWord 6 = .ok (.ireturn, 1) := by decide +kernel
theorem dL_loadedWord_7 : decode cL_loadedWord 7 = .ok (.astore_n 3, 1) := by decide +kernel
theorem dL_loadedWord_8 : decode cL_loadedWord 8 = .ok (.bipush (-75), 2) := by decide +kernel
theorem dL_loadedWord_10 : decode cL_loadedWord 10 = .ok (.ireturn, 1) := by decide +kernel
theorem dL_loadedWord_11 : decode cL_loadedWord 11 = .ok (.astore_n 3, 1) := by decide +kernel
theorem dL_loadedWord_12 : decode cL_loadedWord 12 = .ok (.bipush (-77), 2) := by decide +kernel
theorem dL_loadedWord_14 : decode cL_loadedWord 14 = .ok (.ireturn, 1) := by decide +kernel
theorem dL_loadedWord_15 : decode cL_loadedWord 15 = .ok (.astore_n 3, 1) := by decide +kernel
theorem dL_loadedWord_16 : decode cL_loadedWord 16 = .ok (.bipush (-78), 2) := by decide +kernel
theorem dL_loadedWord_18 : decode cL_loadedWord 18 = .ok (.ireturn, 1) := by decide +kernel
theorem dL_labelAddress_0 : decode cL_labelAddress 0 = .ok (.aload_n 0, 1) := by decide +kernel
theorem dL_labelAddress_1 : decode cL_labelAddress 1 = .ok (.iload_n 1, 1) := by decide +kernel
theorem dL_labelAddress_2 : decode cL_labelAddress 2 = .ok (.invokevirtual 96, 3) := by decide +kernel
theorem dL_labelAddress_5 : decode cL_labelAddress 5 = .ok (.ireturn, 1) := by decide +kernel
theorem dL_labelAddress_6 : decode cL_labelAddress 6 = .ok (.astore_n 2, 1) := by decide +kernel
theorem dL_labelAddress_7 : decode cL_labelAddress 7 = .ok (.bipush (-75), 2) := by decide +kernel
theorem dL_labelAddress_9 : decode cL_labelAddress 9 = .ok (.ireturn, 1) := by decide +kernel
