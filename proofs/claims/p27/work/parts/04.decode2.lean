theorem dX3_readNumber_82 : decode cX3_readNumber 82 = .ok (.iadd, 1) := by decide +kernel
theorem dX3_readNumber_83 : decode cX3_readNumber 83 = .ok (.invokevirtual 74, 3) := by decide +kernel
theorem dX3_readNumber_86 : decode cX3_readNumber 86 = .ok (.iadd, 1) := by decide +kernel
theorem dX3_readNumber_87 : decode cX3_readNumber 87 = .ok (.bipush 48, 2) := by decide +kernel
theorem dX3_readNumber_89 : decode cX3_readNumber 89 = .ok (.isub, 1) := by decide +kernel
theorem dX3_readNumber_90 : decode cX3_readNumber 90 = .ok (.ireturn, 1) := by decide +kernel
theorem dX3_readDash_0 : decode cX3_readDash 0 = .ok (.aload_n 0, 1) := by decide +kernel
theorem dX3_readDash_1 : decode cX3_readDash 1 = .ok (.invokevirtual 53, 3) := by decide +kernel
theorem dX3_readDash_4 : decode cX3_readDash 4 = .ok (.aload_n 0, 1) := by decide +kernel
theorem dX3_readDash_5 : decode cX3_readDash 5 = .ok (.ldc 82, 2) := by decide +kernel
theorem dX3_readDash_7 : decode cX3_readDash 7 = .ok (.invokevirtual 60, 3) := by decide +kernel
theorem dX3_readDash_10 : decode cX3_readDash 10 = .ok (.ifCond .ne 7, 3) := by decide +kernel
theorem dX3_readDash_13 : decode cX3_readDash 13 = .ok (.aload_n 0, 1) := by decide +kernel
theorem dX3_readDash_14 : decode cX3_readDash 14 = .ok (.invokevirtual 64, 3) := by decide +kernel
theorem dX3_readDash_17 : decode cX3_readDash 17 = .ok (.return_, 1) := by decide +kernel
theorem dX3_readEnd_0 : decode cX3_readEnd 0 = .ok (.aload_n 0, 1) := by decide +kernel
theorem dX3_readEnd_1 : decode cX3_readEnd 1 = .ok (.invokevirtual 53, 3) := by decide +kernel
theorem dX3_readEnd_4 : decode cX3_readEnd 4 = .ok (.aload_n 0, 1) := by decide +kernel
theorem dX3_readEnd_5 : decode cX3_readEnd 5 = .ok (.getfield 71, 3) := by decide +kernel
theorem dX3_readEnd_8 : decode cX3_readEnd 8 = .ok (.aload_n 0, 1) := by decide +kernel
theorem dX3_readEnd_9 : decode cX3_readEnd 9 = .ok (.getfield 12, 3) := by decide +kernel
theorem dX3_readEnd_12 : decode cX3_readEnd 12 = .ok (.getfield 84, 3) := by decide +kernel
theorem dX3_readEnd_15 : decode cX3_readEnd 15 = .ok (.if_icmp .ge 7, 3) := by decide +kernel
theorem dX3_readEnd_18 : decode cX3_readEnd 18 = .ok (.aload_n 0, 1) := by decide +kernel
theorem dX3_readEnd_19 : decode cX3_readEnd 19 = .ok (.invokevirtual 64, 3) := by decide +kernel
theorem dX3_readEnd_22 : decode cX3_readEnd 22 = .ok (.return_, 1) := by decide +kernel
theorem dX3_advance_0 : decode cX3_advance 0 = .ok (.aload_n 0, 1) := by decide +kernel
theorem dX3_advance_1 : decode cX3_advance 1 = .ok (.aload_n 0, 1) := by decide +kernel
theorem dX3_advance_2 : decode cX3_advance 2 = .ok (.getfield 22, 3) := by decide +kernel
theorem dX3_advance_5 : decode cX3_advance 5 = .ok (.putfield 71, 3) := by decide +kernel
theorem dX3_advance_8 : decode cX3_advance 8 = .ok (.aload_n 0, 1) := by decide +kernel
theorem dX3_advance_9 : decode cX3_advance 9 = .ok (.getfield 71, 3) := by decide +kernel
theorem dX3_advance_12 : decode cX3_advance 12 = .ok (.aload_n 0, 1) := by decide +kernel
theorem dX3_advance_13 : decode cX3_advance 13 = .ok (.getfield 12, 3) := by decide +kernel
theorem dX3_advance_16 : decode cX3_advance 16 = .ok (.getfield 84, 3) := by decide +kernel
theorem dX3_advance_19 : decode cX3_advance 19 = .ok (.if_icmp .ge 32, 3) := by decide +kernel
theorem dX3_advance_22 : decode cX3_advance 22 = .ok (.aload_n 0, 1) := by decide +kernel
theorem dX3_advance_23 : decode cX3_advance 23 = .ok (.getfield 12, 3) := by decide +kernel
theorem dX3_advance_26 : decode cX3_advance 26 = .ok (.aload_n 0, 1) := by decide +kernel
theorem dX3_advance_27 : decode cX3_advance 27 = .ok (.getfield 71, 3) := by decide +kernel
theorem dX3_advance_30 : decode cX3_advance 30 = .ok (.invokevirtual 74, 3) := by decide +kernel
theorem dX3_advance_33 : decode cX3_advance 33 = .ok (.bipush 32, 2) := by decide +kernel
theorem dX3_advance_35 : decode cX3_advance 35 = .ok (.if_icmp .ne 16, 3) := by decide +kernel
theorem dX3_advance_38 : decode cX3_advance 38 = .ok (.aload_n 0, 1) := by decide +kernel
theorem dX3_advance_39 : decode cX3_advance 39 = .ok (.dup, 1) := by decide +kernel
theorem dX3_advance_40 : decode cX3_advance 40 = .ok (.getfield 71, 3) := by decide +kernel
theorem dX3_advance_43 : decode cX3_advance 43 = .ok (.iconst 1, 1) := by decide +kernel
theorem dX3_advance_44 : decode cX3_advance 44 = .ok (.iadd, 1) := by decide +kernel
theorem dX3_advance_45 : decode cX3_advance 45 = .ok (.putfield 71, 3) := by decide +kernel
theorem dX3_advance_48 : decode cX3_advance 48 = .ok (.goto (-40), 3) := by decide +kernel
theorem dX3_advance_51 : decode cX3_advance 51 = .ok (.aload_n 0, 1) := by decide +kernel
theorem dX3_advance_52 : decode cX3_advance 52 = .ok (.aload_n 0, 1) := by decide +kernel
theorem dX3_advance_53 : decode cX3_advance 53 = .ok (.getfield 71, 3) := by decide +kernel
theorem dX3_advance_56 : decode cX3_advance 56 = .ok (.putfield 22, 3) := by decide +kernel
theorem dX3_advance_59 : decode cX3_advance 59 = .ok (.aload_n 0, 1) := by decide +kernel
theorem dX3_advance_60 : decode cX3_advance 60 = .ok (.getfield 71, 3) := by decide +kernel
theorem dX3_advance_63 : decode cX3_advance 63 = .ok (.aload_n 0, 1) := by decide +kernel
theorem dX3_advance_64 : decode cX3_advance 64 = .ok (.getfield 12, 3) := by decide +kernel
theorem dX3_advance_67 : decode cX3_advance 67 = .ok (.getfield 84, 3) := by decide +kernel
theorem dX3_advance_70 : decode cX3_advance 70 = .ok (.if_icmp .ge 68, 3) := by decide +kernel
theorem dX3_advance_73 : decode cX3_advance 73 = .ok (.aload_n 0, 1) := by decide +kernel
theorem dX3_advance_74 : decode cX3_advance 74 = .ok (.aload_n 0, 1) := by decide +kernel
theorem dX3_advance_75 : decode cX3_advance 75 = .ok (.getfield 71, 3) := by decide +kernel
theorem dX3_advance_78 : decode cX3_advance 78 = .ok (.iconst 1, 1) := by decide +kernel
theorem dX3_advance_79 : decode cX3_advance 79 = .ok (.iadd, 1) := by decide +kernel
theorem dX3_advance_80 : decode cX3_advance 80 = .ok (.putfield 22, 3) := by decide +kernel
theorem dX3_advance_83 : decode cX3_advance 83 = .ok (.aload_n 0, 1) := by decide +kernel
theorem dX3_advance_84 : decode cX3_advance 84 = .ok (.getfield 22, 3) := by decide +kernel
theorem dX3_advance_87 : decode cX3_advance 87 = .ok (.aload_n 0, 1) := by decide +kernel
theorem dX3_advance_88 : decode cX3_advance 88 = .ok (.getfield 12, 3) := by decide +kernel
theorem dX3_advance_91 : decode cX3_advance 91 = .ok (.getfield 84, 3) := by decide +kernel
theorem dX3_advance_94 : decode cX3_advance 94 = .ok (.if_icmp .ge 44, 3) := by decide +kernel
theorem dX3_advance_97 : decode cX3_advance 97 = .ok (.aload_n 0, 1) := by decide +kernel
theorem dX3_advance_98 : decode cX3_advance 98 = .ok (.getfield 12, 3) := by decide +kernel
theorem dX3_advance_101 : decode cX3_advance 101 = .ok (.aload_n 0, 1) := by decide +kernel
theorem dX3_advance_102 : decode cX3_advance 102 = .ok (.getfield 71, 3) := by decide +kernel
theorem dX3_advance_105 : decode cX3_advance 105 = .ok (.invokevirtual 74, 3) := by decide +kernel
theorem dX3_advance_108 : decode cX3_advance 108 = .ok (.aload_n 0, 1) := by decide +kernel
theorem dX3_advance_109 : decode cX3_advance 109 = .ok (.getfield 12, 3) := by decide +kernel
theorem dX3_advance_112 : decode cX3_advance 112 = .ok (.aload_n 0, 1) := by decide +kernel
theorem dX3_advance_113 : decode cX3_advance 113 = .ok (.getfield 22, 3) := by decide +kernel
theorem dX3_advance_116 : decode cX3_advance 116 = .ok (.invokevirtual 74, 3) := by decide +kernel
theorem dX3_advance_119 : decode cX3_advance 119 = .ok (.invokestatic 87, 3) := by decide +kernel
theorem dX3_advance_122 : decode cX3_advance 122 = .ok (.ifCond .eq 16, 3) := by decide +kernel
theorem dX3_advance_125 : decode cX3_advance 125 = .ok (.aload_n 0, 1) := by decide +kernel
theorem dX3_advance_126 : decode cX3_advance 126 = .ok (.dup, 1) := by decide +kernel
theorem dX3_advance_127 : decode cX3_advance 127 = .ok (.getfield 22, 3) := by decide +kernel
theorem dX3_advance_130 : decode cX3_advance 130 = .ok (.iconst 1, 1) := by decide +kernel
theorem dX3_advance_131 : decode cX3_advance 131 = .ok (.iadd, 1) := by decide +kernel
theorem dX3_advance_132 : decode cX3_advance 132 = .ok (.putfield 22, 3) := by decide +kernel
theorem dX3_advance_135 : decode cX3_advance 135 = .ok (.goto (-52), 3) := by decide +kernel
theorem dX3_advance_138 : decode cX3_advance 138 = .ok (.return_, 1) := by decide +kernel
theorem dX3_refuse_0 : decode cX3_refuse 0 = .ok (.aload_n 0, 1) := by decide +kernel
theorem dX3_refuse_1 : decode cX3_refuse 1 = .ok (.getfield 18, 3) := by decide +kernel
theorem dX3_refuse_4 : decode cX3_refuse 4 = .ok (.iconst (-1), 1) := by decide +kernel
theorem dX3_refuse_5 : decode cX3_refuse 5 = .ok (.if_icmp .ne 11, 3) := by decide +kernel
theorem dX3_refuse_8 : decode cX3_refuse 8 = .ok (.aload_n 0, 1) := by decide +kernel
theorem dX3_refuse_9 : decode cX3_refuse 9 = .ok (.aload_n 0, 1) := by decide +kernel
theorem dX3_refuse_10 : decode cX3_refuse 10 = .ok (.getfield 71, 3) := by decide +kernel
theorem dX3_refuse_13 : decode cX3_refuse 13 = .ok (.putfield 18, 3) := by decide +kernel
theorem dX3_refuse_16 : decode cX3_refuse 16 = .ok (.return_, 1) := by decide +kernel
theorem dX3_tokenIs_0 : decode cX3_tokenIs 0 = .ok (.aload_n 0, 1) := by decide +kernel
theorem dX3_tokenIs_1 : decode cX3_tokenIs 1 = .ok (.getfield 22, 3) := by decide +kernel
theorem dX3_tokenIs_4 : decode cX3_tokenIs 4 = .ok (.aload_n 0, 1) := by decide +kernel
theorem dX3_tokenIs_5 : decode cX3_tokenIs 5 = .ok (.getfield 71, 3) := by decide +kernel
theorem dX3_tokenIs_8 : decode cX3_tokenIs 8 = .ok (.isub, 1) := by decide +kernel
theorem dX3_tokenIs_9 : decode cX3_tokenIs 9 = .ok (.aload_n 1, 1) := by decide +kernel
theorem dX3_tokenIs_10 : decode cX3_tokenIs 10 = .ok (.invokevirtual 91, 3) := by decide +kernel
theorem dX3_tokenIs_13 : decode cX3_tokenIs 13 = .ok (.if_icmp .eq 5, 3) := by decide +kernel
theorem dX3_tokenIs_16 : decode cX3_tokenIs 16 = .ok (.iconst 0, 1) := by decide +kernel
theorem dX3_tokenIs_17 : decode cX3_tokenIs 17 = .ok (.ireturn, 1) := by decide +kernel
theorem dX3_tokenIs_18 : decode cX3_tokenIs 18 = .ok (.iconst 0, 1) := by decide +kernel
theorem dX3_tokenIs_19 : decode cX3_tokenIs 19 = .ok (.istore_n 2, 1) := by decide +kernel
theorem dX3_tokenIs_20 : decode cX3_tokenIs 20 = .ok (.iload_n 2, 1) := by decide +kernel
theorem dX3_tokenIs_21 : decode cX3_tokenIs 21 = .ok (.aload_n 1, 1) := by decide +kernel
theorem dX3_tokenIs_22 : decode cX3_tokenIs 22 = .ok (.invokevirtual 91, 3) := by decide +kernel
theorem dX3_tokenIs_25 : decode cX3_tokenIs 25 = .ok (.if_icmp .ge 32, 3) := by decide +kernel
theorem dX3_tokenIs_28 : decode cX3_tokenIs 28 = .ok (.aload_n 0, 1) := by decide +kernel
theorem dX3_tokenIs_29 : decode cX3_tokenIs 29 = .ok (.getfield 12, 3) := by decide +kernel
theorem dX3_tokenIs_32 : decode cX3_tokenIs 32 = .ok (.aload_n 0, 1) := by decide +kernel
theorem dX3_tokenIs_33 : decode cX3_tokenIs 33 = .ok (.getfield 71, 3) := by decide +kernel
theorem dX3_tokenIs_36 : decode cX3_tokenIs 36 = .ok (.iload_n 2, 1) := by decide +kernel
theorem dX3_tokenIs_37 : decode cX3_tokenIs 37 = .ok (.iadd, 1) := by decide +kernel
theorem dX3_tokenIs_38 : decode cX3_tokenIs 38 = .ok (.invokevirtual 74, 3) := by decide +kernel
theorem dX3_tokenIs_41 : decode cX3_tokenIs 41 = .ok (.aload_n 1, 1) := by decide +kernel
theorem dX3_tokenIs_42 : decode cX3_tokenIs 42 = .ok (.iload_n 2, 1) := by decide +kernel
theorem dX3_tokenIs_43 : decode cX3_tokenIs 43 = .ok (.invokevirtual 95, 3) := by decide +kernel
theorem dX3_tokenIs_46 : decode cX3_tokenIs 46 = .ok (.if_icmp .eq 5, 3) := by decide +kernel
theorem dX3_tokenIs_49 : decode cX3_tokenIs 49 = .ok (.iconst 0, 1) := by decide +kernel
theorem dX3_tokenIs_50 : decode cX3_tokenIs 50 = .ok (.ireturn, 1) := by decide +kernel
theorem dX3_tokenIs_51 : decode cX3_tokenIs 51 = .ok (.iinc 2 1, 3) := by decide +kernel
theorem dX3_tokenIs_54 : decode cX3_tokenIs 54 = .ok (.goto (-34), 3) := by decide +kernel
theorem dX3_tokenIs_57 : decode cX3_tokenIs 57 = .ok (.iconst 1, 1) := by decide +kernel
theorem dX3_tokenIs_58 : decode cX3_tokenIs 58 = .ok (.ireturn, 1) := by decide +kernel
theorem dX3_word_0 : decode cX3_word 0 = .ok (.iload_n 0, 1) := by decide +kernel
theorem dX3_word_1 : decode cX3_word 1 = .ok (.tableswitch 43 0 3 #[31, 34, 37, 40], 31) := by decide +kernel
theorem dX3_word_32 : decode cX3_word 32 = .ok (.ldc 99, 2) := by decide +kernel
theorem dX3_word_34 : decode cX3_word 34 = .ok (.areturn, 1) := by decide +kernel
theorem dX3_word_35 : decode cX3_word 35 = .ok (.ldc 101, 2) := by decide +kernel
theorem dX3_word_37 : decode cX3_word 37 = .ok (.areturn, 1) := by decide +kernel
theorem dX3_word_38 : decode cX3_word 38 = .ok (.ldc 103, 2) := by decide +kernel
theorem dX3_word_40 : decode cX3_word 40 = .ok (.areturn, 1) := by decide +kernel
theorem dX3_word_41 : decode cX3_word 41 = .ok (.ldc 105, 2) := by decide +kernel
theorem dX3_word_43 : decode cX3_word 43 = .ok (.areturn, 1) := by decide +kernel
theorem dX3_word_44 : decode cX3_word 44 = .ok (.ldc 107, 2) := by decide +kernel
theorem dX3_word_46 : decode cX3_word 46 = .ok (.areturn, 1) := by decide +kernel
theorem dX3_isSameRun_0 : decode cX3_isSameRun 0 = .ok (.iload_n 0, 1) := by decide +kernel
theorem dX3_isSameRun_1 : decode cX3_isSameRun 1 = .ok (.invokestatic 109, 3) := by decide +kernel
theorem dX3_isSameRun_4 : decode cX3_isSameRun 4 = .ok (.ifCond .eq 10, 3) := by decide +kernel
theorem dX3_isSameRun_7 : decode cX3_isSameRun 7 = .ok (.iload_n 1, 1) := by decide +kernel
theorem dX3_isSameRun_8 : decode cX3_isSameRun 8 = .ok (.invokestatic 109, 3) := by decide +kernel
theorem dX3_isSameRun_11 : decode cX3_isSameRun 11 = .ok (.ifCond .ne 17, 3) := by decide +kernel
theorem dX3_isSameRun_14 : decode cX3_isSameRun 14 = .ok (.iload_n 0, 1) := by decide +kernel
theorem dX3_isSameRun_15 : decode cX3_isSameRun 15 = .ok (.invokestatic 78, 3) := by decide +kernel
theorem dX3_isSameRun_18 : decode cX3_isSameRun 18 = .ok (.ifCond .eq 14, 3) := by decide +kernel
theorem dX3_isSameRun_21 : decode cX3_isSameRun 21 = .ok (.iload_n 1, 1) := by decide +kernel
theorem dX3_isSameRun_22 : decode cX3_isSameRun 22 = .ok (.invokestatic 78, 3) := by decide +kernel
theorem dX3_isSameRun_25 : decode cX3_isSameRun 25 = .ok (.ifCond .eq 7, 3) := by decide +kernel
theorem dX3_isSameRun_28 : decode cX3_isSameRun 28 = .ok (.iconst 1, 1) := by decide +kernel
theorem dX3_isSameRun_29 : decode cX3_isSameRun 29 = .ok (.goto 4, 3) := by decide +kernel
theorem dX3_isSameRun_32 : decode cX3_isSameRun 32 = .ok (.iconst 0, 1) := by decide +kernel
theorem dX3_isSameRun_33 : decode cX3_isSameRun 33 = .ok (.ireturn, 1) := by decide +kernel
theorem dX3_isLetter_0 : decode cX3_isLetter 0 = .ok (.iload_n 0, 1) := by decide +kernel
theorem dX3_isLetter_1 : decode cX3_isLetter 1 = .ok (.bipush 97, 2) := by decide +kernel
theorem dX3_isLetter_3 : decode cX3_isLetter 3 = .ok (.if_icmp .lt 13, 3) := by decide +kernel
theorem dX3_isLetter_6 : decode cX3_isLetter 6 = .ok (.iload_n 0, 1) := by decide +kernel
theorem dX3_isLetter_7 : decode cX3_isLetter 7 = .ok (.bipush 122, 2) := by decide +kernel
theorem dX3_isLetter_9 : decode cX3_isLetter 9 = .ok (.if_icmp .gt 7, 3) := by decide +kernel
theorem dX3_isLetter_12 : decode cX3_isLetter 12 = .ok (.iconst 1, 1) := by decide +kernel
theorem dX3_isLetter_13 : decode cX3_isLetter 13 = .ok (.goto 4, 3) := by decide +kernel
theorem dX3_isLetter_16 : decode cX3_isLetter 16 = .ok (.iconst 0, 1) := by decide +kernel
theorem dX3_isLetter_17 : decode cX3_isLetter 17 = .ok (.ireturn, 1) := by decide +kernel
theorem dX3_isDigit_0 : decode cX3_isDigit 0 = .ok (.iload_n 0, 1) := by decide +kernel
theorem dX3_isDigit_1 : decode cX3_isDigit 1 = .ok (.bipush 48, 2) := by decide +kernel
theorem dX3_isDigit_3 : decode cX3_isDigit 3 = .ok (.if_icmp .lt 13, 3) := by decide +kernel
theorem dX3_isDigit_6 : decode cX3_isDigit 6 = .ok (.iload_n 0, 1) := by decide +kernel
theorem dX3_isDigit_7 : decode cX3_isDigit 7 = .ok (.bipush 57, 2) := by decide +kernel
theorem dX3_isDigit_9 : decode cX3_isDigit 9 = .ok (.if_icmp .gt 7, 3) := by decide +kernel
theorem dX3_isDigit_12 : decode cX3_isDigit 12 = .ok (.iconst 1, 1) := by decide +kernel
theorem dX3_isDigit_13 : decode cX3_isDigit 13 = .ok (.goto 4, 3) := by decide +kernel
theorem dX3_isDigit_16 : decode cX3_isDigit 16 = .ok (.iconst 0, 1) := by decide +kernel
theorem dX3_isDigit_17 : decode cX3_isDigit 17 = .ok (.ireturn, 1) := by decide +kernel
theorem dX4_init_0 : decode cX4_init 0 = .ok (.aload_n 0, 1) := by decide +kernel
theorem dX4_init_1 : decode cX4_init 1 = .ok (.invokespecial 3, 3) := by decide +kernel
theorem dX4_init_4 : decode cX4_init 4 = .ok (.aload_n 0, 1) := by decide +kernel
theorem dX4_init_5 : decode cX4_init 5 = .ok (.new 9, 3) := by decide +kernel
theorem dX4_init_8 : decode cX4_init 8 = .ok (.dup, 1) := by decide +kernel
theorem dX4_init_9 : decode cX4_init 9 = .ok (.invokespecial 11, 3) := by decide +kernel
theorem dX4_init_12 : decode cX4_init 12 = .ok (.putfield 12, 3) := by decide +kernel
theorem dX4_init_15 : decode cX4_init 15 = .ok (.aload_n 0, 1) := by decide +kernel
theorem dX4_init_16 : decode cX4_init 16 = .ok (.bipush 8, 2) := by decide +kernel
theorem dX4_init_18 : decode cX4_init 18 = .ok (.newarray .int, 2) := by decide +kernel
theorem dX4_init_20 : decode cX4_init 20 = .ok (.putfield 18, 3) := by decide +kernel
theorem dX4_init_23 : decode cX4_init 23 = .ok (.return_, 1) := by decide +kernel
theorem dX4_answerByTables_0 : decode cX4_answerByTables 0 = .ok (.aload_n 0, 1) := by decide +kernel
theorem dX4_answerByTables_1 : decode cX4_answerByTables 1 = .ok (.getfield 12, 3) := by decide +kernel
theorem dX4_answerByTables_4 : decode cX4_answerByTables 4 = .ok (.invokevirtual 22, 3) := by decide +kernel
theorem dX4_answerByTables_7 : decode cX4_answerByTables 7 = .ok (.iconst 0, 1) := by decide +kernel
theorem dX4_answerByTables_8 : decode cX4_answerByTables 8 = .ok (.istore 4, 2) := by decide +kernel
theorem dX4_answerByTables_10 : decode cX4_answerByTables 10 = .ok (.iload 4, 2) := by decide +kernel
theorem dX4_answerByTables_12 : decode cX4_answerByTables 12 = .ok (.iload_n 3, 1) := by decide +kernel
theorem dX4_answerByTables_13 : decode cX4_answerByTables 13 = .ok (.if_icmp .ge 34, 3) := by decide +kernel
theorem dX4_answerByTables_16 : decode cX4_answerByTables 16 = .ok (.aload_n 0, 1) := by decide +kernel
theorem dX4_answerByTables_17 : decode cX4_answerByTables 17 = .ok (.getfield 12, 3) := by decide +kernel
theorem dX4_answerByTables_20 : decode cX4_answerByTables 20 = .ok (.aload_n 1, 1) := by decide +kernel
theorem dX4_answerByTables_21 : decode cX4_answerByTables 21 = .ok (.getfield 25, 3) := by decide +kernel
theorem dX4_answerByTables_24 : decode cX4_answerByTables 24 = .ok (.iload 4, 2) := by decide +kernel
theorem dX4_answerByTables_26 : decode cX4_answerByTables 26 = .ok (.invokevirtual 31, 3) := by decide +kernel
theorem dX4_answerByTables_29 : decode cX4_answerByTables 29 = .ok (.aload_n 1, 1) := by decide +kernel
theorem dX4_answerByTables_30 : decode cX4_answerByTables 30 = .ok (.getfield 25, 3) := by decide +kernel
theorem dX4_answerByTables_33 : decode cX4_answerByTables 33 = .ok (.iload 4, 2) := by decide +kernel
theorem dX4_answerByTables_35 : decode cX4_answerByTables 35 = .ok (.invokevirtual 37, 3) := by decide +kernel
theorem dX4_answerByTables_38 : decode cX4_answerByTables 38 = .ok (.invokevirtual 40, 3) := by decide +kernel
theorem dX4_answerByTables_41 : decode cX4_answerByTables 41 = .ok (.iinc 4 1, 3) := by decide +kernel
theorem dX4_answerByTables_44 : decode cX4_answerByTables 44 = .ok (.goto (-34), 3) := by decide +kernel
theorem dX4_answerByTables_47 : decode cX4_answerByTables 47 = .ok (.aload_n 0, 1) := by decide +kernel
theorem dX4_answerByTables_48 : decode cX4_answerByTables 48 = .ok (.aload_n 1, 1) := by decide +kernel
theorem dX4_answerByTables_49 : decode cX4_answerByTables 49 = .ok (.invokevirtual 44, 3) := by decide +kernel
theorem dX4_answerByTables_52 : decode cX4_answerByTables 52 = .ok (.aload_n 0, 1) := by decide +kernel
theorem dX4_answerByTables_53 : decode cX4_answerByTables 53 = .ok (.iload_n 2, 1) := by decide +kernel
theorem dX4_answerByTables_54 : decode cX4_answerByTables 54 = .ok (.invokevirtual 48, 3) := by decide +kernel
theorem dX4_answerByTables_57 : decode cX4_answerByTables 57 = .ok (.ireturn, 1) := by decide +kernel
theorem dX4_answerByChanges_0 : decode cX4_answerByChanges 0 = .ok (.aload_n 0, 1) := by decide +kernel
theorem dX4_answerByChanges_1 : decode cX4_answerByChanges 1 = .ok (.aload_n 1, 1) := by decide +kernel
theorem dX4_answerByChanges_2 : decode cX4_answerByChanges 2 = .ok (.invokevirtual 51, 3) := by decide +kernel
theorem dX4_answerByChanges_5 : decode cX4_answerByChanges 5 = .ok (.iconst 0, 1) := by decide +kernel
theorem dX4_answerByChanges_6 : decode cX4_answerByChanges 6 = .ok (.istore 4, 2) := by decide +kernel
theorem dX4_answerByChanges_8 : decode cX4_answerByChanges 8 = .ok (.iload 4, 2) := by decide +kernel
theorem dX4_answerByChanges_10 : decode cX4_answerByChanges 10 = .ok (.iload_n 3, 1) := by decide +kernel
theorem dX4_answerByChanges_11 : decode cX4_answerByChanges 11 = .ok (.if_icmp .ge 16, 3) := by decide +kernel
theorem dX4_answerByChanges_14 : decode cX4_answerByChanges 14 = .ok (.aload_n 0, 1) := by decide +kernel
theorem dX4_answerByChanges_15 : decode cX4_answerByChanges 15 = .ok (.aload_n 1, 1) := by decide +kernel
theorem dX4_answerByChanges_16 : decode cX4_answerByChanges 16 = .ok (.iload 4, 2) := by decide +kernel
theorem dX4_answerByChanges_18 : decode cX4_answerByChanges 18 = .ok (.invokevirtual 54, 3) := by decide +kernel
theorem dX4_answerByChanges_21 : decode cX4_answerByChanges 21 = .ok (.iinc 4 1, 3) := by decide +kernel
theorem dX4_answerByChanges_24 : decode cX4_answerByChanges 24 = .ok (.goto (-16), 3) := by decide +kernel
theorem dX4_answerByChanges_27 : decode cX4_answerByChanges 27 = .ok (.aload_n 0, 1) := by decide +kernel
theorem dX4_answerByChanges_28 : decode cX4_answerByChanges 28 = .ok (.iload_n 2, 1) := by decide +kernel
theorem dX4_answerByChanges_29 : decode cX4_answerByChanges 29 = .ok (.invokevirtual 48, 3) := by decide +kernel
theorem dX4_answerByChanges_32 : decode cX4_answerByChanges 32 = .ok (.ireturn, 1) := by decide +kernel
theorem dX4_lastTurn_0 : decode cX4_lastTurn 0 = .ok (.aload_n 0, 1) := by decide +kernel
theorem dX4_lastTurn_1 : decode cX4_lastTurn 1 = .ok (.aload_n 1, 1) := by decide +kernel
theorem dX4_lastTurn_2 : decode cX4_lastTurn 2 = .ok (.invokevirtual 51, 3) := by decide +kernel
theorem dX4_lastTurn_5 : decode cX4_lastTurn 5 = .ok (.iconst 0, 1) := by decide +kernel
theorem dX4_lastTurn_6 : decode cX4_lastTurn 6 = .ok (.istore_n 3, 1) := by decide +kernel
theorem dX4_lastTurn_7 : decode cX4_lastTurn 7 = .ok (.iconst 0, 1) := by decide +kernel
theorem dX4_lastTurn_8 : decode cX4_lastTurn 8 = .ok (.istore 4, 2) := by decide +kernel
theorem dX4_lastTurn_10 : decode cX4_lastTurn 10 = .ok (.iload 4, 2) := by decide +kernel
theorem dX4_lastTurn_12 : decode cX4_lastTurn 12 = .ok (.aload_n 1, 1) := by decide +kernel
theorem dX4_lastTurn_13 : decode cX4_lastTurn 13 = .ok (.getfield 25, 3) := by decide +kernel
theorem dX4_lastTurn_16 : decode cX4_lastTurn 16 = .ok (.getfield 58, 3) := by decide +kernel
theorem dX4_lastTurn_19 : decode cX4_lastTurn 19 = .ok (.if_icmp .ge 38, 3) := by decide +kernel
theorem dX4_lastTurn_22 : decode cX4_lastTurn 22 = .ok (.aload_n 0, 1) := by decide +kernel
theorem dX4_lastTurn_23 : decode cX4_lastTurn 23 = .ok (.iload_n 2, 1) := by decide +kernel
theorem dX4_lastTurn_24 : decode cX4_lastTurn 24 = .ok (.invokevirtual 48, 3) := by decide +kernel
theorem dX4_lastTurn_27 : decode cX4_lastTurn 27 = .ok (.istore 5, 2) := by decide +kernel
theorem dX4_lastTurn_29 : decode cX4_lastTurn 29 = .ok (.aload_n 0, 1) := by decide +kernel
theorem dX4_lastTurn_30 : decode cX4_lastTurn 30 = .ok (.aload_n 1, 1) := by decide +kernel
theorem dX4_lastTurn_31 : decode cX4_lastTurn 31 = .ok (.iload 4, 2) := by decide +kernel
theorem dX4_lastTurn_33 : decode cX4_lastTurn 33 = .ok (.invokevirtual 54, 3) := by decide +kernel
theorem dX4_lastTurn_36 : decode cX4_lastTurn 36 = .ok (.aload_n 0, 1) := by decide +kernel
theorem dX4_lastTurn_37 : decode cX4_lastTurn 37 = .ok (.iload_n 2, 1) := by decide +kernel
theorem dX4_lastTurn_38 : decode cX4_lastTurn 38 = .ok (.invokevirtual 48, 3) := by decide +kernel
theorem dX4_lastTurn_41 : decode cX4_lastTurn 41 = .ok (.iload 5, 2) := by decide +kernel
theorem dX4_lastTurn_43 : decode cX4_lastTurn 43 = .ok (.if_icmp .eq 8, 3) := by decide +kernel
theorem dX4_lastTurn_46 : decode cX4_lastTurn 46 = .ok (.iload 4, 2) := by decide +kernel
theorem dX4_lastTurn_48 : decode cX4_lastTurn 48 = .ok (.iconst 1, 1) := by decide +kernel
theorem dX4_lastTurn_49 : decode cX4_lastTurn 49 = .ok (.iadd, 1) := by decide +kernel
theorem dX4_lastTurn_50 : decode cX4_lastTurn 50 = .ok (.istore_n 3, 1) := by decide +kernel
theorem dX4_lastTurn_51 : decode cX4_lastTurn 51 = .ok (.iinc 4 1, 3) := by decide +kernel
theorem dX4_lastTurn_54 : decode cX4_lastTurn 54 = .ok (.goto (-44), 3) := by decide +kernel
theorem dX4_lastTurn_57 : decode cX4_lastTurn 57 = .ok (.iload_n 3, 1) := by decide +kernel
theorem dX4_lastTurn_58 : decode cX4_lastTurn 58 = .ok (.ireturn, 1) := by decide +kernel
theorem dX4_begin_0 : decode cX4_begin 0 = .ok (.aload_n 0, 1) := by decide +kernel
theorem dX4_begin_1 : decode cX4_begin 1 = .ok (.getfield 12, 3) := by decide +kernel
theorem dX4_begin_4 : decode cX4_begin 4 = .ok (.invokevirtual 22, 3) := by decide +kernel
theorem dX4_begin_7 : decode cX4_begin 7 = .ok (.aload_n 0, 1) := by decide +kernel
theorem dX4_begin_8 : decode cX4_begin 8 = .ok (.aload_n 1, 1) := by decide +kernel
theorem dX4_begin_9 : decode cX4_begin 9 = .ok (.invokevirtual 44, 3) := by decide +kernel
theorem dX4_begin_12 : decode cX4_begin 12 = .ok (.return_, 1) := by decide +kernel
theorem dX4_askTables_0 : decode cX4_askTables 0 = .ok (.iconst 0, 1) := by decide +kernel
theorem dX4_askTables_1 : decode cX4_askTables 1 = .ok (.istore_n 2, 1) := by decide +kernel
theorem dX4_askTables_2 : decode cX4_askTables 2 = .ok (.iload_n 2, 1) := by decide +kernel
theorem dX4_askTables_3 : decode cX4_askTables 3 = .ok (.aload_n 0, 1) := by decide +kernel
theorem dX4_askTables_4 : decode cX4_askTables 4 = .ok (.getfield 18, 3) := by decide +kernel
theorem dX4_askTables_7 : decode cX4_askTables 7 = .ok (.arraylength, 1) := by decide +kernel
theorem dX4_askTables_8 : decode cX4_askTables 8 = .ok (.if_icmp .ge 49, 3) := by decide +kernel
theorem dX4_askTables_11 : decode cX4_askTables 11 = .ok (.aload_n 1, 1) := by decide +kernel
theorem dX4_askTables_12 : decode cX4_askTables 12 = .ok (.iload_n 2, 1) := by decide +kernel
theorem dX4_askTables_13 : decode cX4_askTables 13 = .ok (.invokevirtual 62, 3) := by decide +kernel
theorem dX4_askTables_16 : decode cX4_askTables 16 = .ok (.astore_n 3, 1) := by decide +kernel
theorem dX4_askTables_17 : decode cX4_askTables 17 = .ok (.aload_n 3, 1) := by decide +kernel
theorem dX4_askTables_18 : decode cX4_askTables 18 = .ok (.ifnull 33, 3) := by decide +kernel
theorem dX4_askTables_21 : decode cX4_askTables 21 = .ok (.aload_n 0, 1) := by decide +kernel
theorem dX4_askTables_22 : decode cX4_askTables 22 = .ok (.getfield 18, 3) := by decide +kernel
theorem dX4_askTables_25 : decode cX4_askTables 25 = .ok (.iload_n 2, 1) := by decide +kernel
theorem dX4_askTables_26 : decode cX4_askTables 26 = .ok (.aload_n 3, 1) := by decide +kernel
theorem dX4_askTables_27 : decode cX4_askTables 27 = .ok (.getfield 66, 3) := by decide +kernel
theorem dX4_askTables_30 : decode cX4_askTables 30 = .ok (.iconst 4, 1) := by decide +kernel
theorem dX4_askTables_31 : decode cX4_askTables 31 = .ok (.if_icmp .ne 11, 3) := by decide +kernel
theorem dX4_askTables_34 : decode cX4_askTables 34 = .ok (.aload_n 0, 1) := by decide +kernel
theorem dX4_askTables_35 : decode cX4_askTables 35 = .ok (.aload_n 3, 1) := by decide +kernel
theorem dX4_askTables_36 : decode cX4_askTables 36 = .ok (.invokevirtual 71, 3) := by decide +kernel
theorem dX4_askTables_39 : decode cX4_askTables 39 = .ok (.goto 11, 3) := by decide +kernel
theorem dX4_askTables_42 : decode cX4_askTables 42 = .ok (.aload_n 3, 1) := by decide +kernel
theorem dX4_askTables_43 : decode cX4_askTables 43 = .ok (.aload_n 0, 1) := by decide +kernel
theorem dX4_askTables_44 : decode cX4_askTables 44 = .ok (.getfield 12, 3) := by decide +kernel
theorem dX4_askTables_47 : decode cX4_askTables 47 = .ok (.invokevirtual 75, 3) := by decide +kernel
theorem dX4_askTables_50 : decode cX4_askTables 50 = .ok (.iastore, 1) := by decide +kernel
theorem dX4_askTables_51 : decode cX4_askTables 51 = .ok (.iinc 2 1, 3) := by decide +kernel
theorem dX4_askTables_54 : decode cX4_askTables 54 = .ok (.goto (-52), 3) := by decide +kernel
theorem dX4_askTables_57 : decode cX4_askTables 57 = .ok (.return_, 1) := by decide +kernel
theorem dX4_step_0 : decode cX4_step 0 = .ok (.aload_n 1, 1) := by decide +kernel
theorem dX4_step_1 : decode cX4_step 1 = .ok (.getfield 25, 3) := by decide +kernel
theorem dX4_step_4 : decode cX4_step 4 = .ok (.iload_n 2, 1) := by decide +kernel
theorem dX4_step_5 : decode cX4_step 5 = .ok (.invokevirtual 31, 3) := by decide +kernel
theorem dX4_step_8 : decode cX4_step 8 = .ok (.istore_n 3, 1) := by decide +kernel
theorem dX4_step_9 : decode cX4_step 9 = .ok (.aload_n 0, 1) := by decide +kernel
theorem dX4_step_10 : decode cX4_step 10 = .ok (.getfield 12, 3) := by decide +kernel
theorem dX4_step_13 : decode cX4_step 13 = .ok (.iload_n 3, 1) := by decide +kernel
theorem dX4_step_14 : decode cX4_step 14 = .ok (.invokevirtual 79, 3) := by decide +kernel
theorem dX4_step_17 : decode cX4_step 17 = .ok (.istore 4, 2) := by decide +kernel
theorem dX4_step_19 : decode cX4_step 19 = .ok (.aload_n 0, 1) := by decide +kernel
theorem dX4_step_20 : decode cX4_step 20 = .ok (.getfield 12, 3) := by decide +kernel
theorem dX4_step_23 : decode cX4_step 23 = .ok (.iload_n 3, 1) := by decide +kernel
theorem dX4_step_24 : decode cX4_step 24 = .ok (.aload_n 1, 1) := by decide +kernel
theorem dX4_step_25 : decode cX4_step 25 = .ok (.getfield 25, 3) := by decide +kernel
theorem dX4_step_28 : decode cX4_step 28 = .ok (.iload_n 2, 1) := by decide +kernel
theorem dX4_step_29 : decode cX4_step 29 = .ok (.invokevirtual 37, 3) := by decide +kernel
theorem dX4_step_32 : decode cX4_step 32 = .ok (.invokevirtual 40, 3) := by decide +kernel
theorem dX4_step_35 : decode cX4_step 35 = .ok (.iconst 0, 1) := by decide +kernel
theorem dX4_step_36 : decode cX4_step 36 = .ok (.istore 5, 2) := by decide +kernel
theorem dX4_step_38 : decode cX4_step 38 = .ok (.iload 5, 2) := by decide +kernel
theorem dX4_step_40 : decode cX4_step 40 = .ok (.aload_n 0, 1) := by decide +kernel
theorem dX4_step_41 : decode cX4_step 41 = .ok (.getfield 18, 3) := by decide +kernel
theorem dX4_step_44 : decode cX4_step 44 = .ok (.arraylength, 1) := by decide +kernel
theorem dX4_step_45 : decode cX4_step 45 = .ok (.if_icmp .ge 75, 3) := by decide +kernel
theorem dX4_step_48 : decode cX4_step 48 = .ok (.aload_n 1, 1) := by decide +kernel
theorem dX4_step_49 : decode cX4_step 49 = .ok (.iload 5, 2) := by decide +kernel
theorem dX4_step_51 : decode cX4_step 51 = .ok (.invokevirtual 62, 3) := by decide +kernel
theorem dX4_step_54 : decode cX4_step 54 = .ok (.astore 6, 2) := by decide +kernel
theorem dX4_step_56 : decode cX4_step 56 = .ok (.aload 6, 2) := by decide +kernel
theorem dX4_step_58 : decode cX4_step 58 = .ok (.ifnull 56, 3) := by decide +kernel
theorem dX4_step_61 : decode cX4_step 61 = .ok (.aload 6, 2) := by decide +kernel
theorem dX4_step_63 : decode cX4_step 63 = .ok (.iload_n 3, 1) := by decide +kernel
theorem dX4_step_64 : decode cX4_step 64 = .ok (.invokevirtual 82, 3) := by decide +kernel
theorem dX4_step_67 : decode cX4_step 67 = .ok (.ifCond .eq 47, 3) := by decide +kernel
theorem dX4_step_70 : decode cX4_step 70 = .ok (.aload_n 0, 1) := by decide +kernel
theorem dX4_step_71 : decode cX4_step 71 = .ok (.getfield 18, 3) := by decide +kernel
theorem dX4_step_74 : decode cX4_step 74 = .ok (.iload 5, 2) := by decide +kernel
theorem dX4_step_76 : decode cX4_step 76 = .ok (.aload 6, 2) := by decide +kernel
theorem dX4_step_78 : decode cX4_step 78 = .ok (.getfield 66, 3) := by decide +kernel
theorem dX4_step_81 : decode cX4_step 81 = .ok (.iconst 4, 1) := by decide +kernel
theorem dX4_step_82 : decode cX4_step 82 = .ok (.if_icmp .ne 12, 3) := by decide +kernel
theorem dX4_step_85 : decode cX4_step 85 = .ok (.aload_n 0, 1) := by decide +kernel
theorem dX4_step_86 : decode cX4_step 86 = .ok (.aload 6, 2) := by decide +kernel
theorem dX4_step_88 : decode cX4_step 88 = .ok (.invokevirtual 71, 3) := by decide +kernel
theorem dX4_step_91 : decode cX4_step 91 = .ok (.goto 22, 3) := by decide +kernel
theorem dX4_step_94 : decode cX4_step 94 = .ok (.aload 6, 2) := by decide +kernel
theorem dX4_step_96 : decode cX4_step 96 = .ok (.aload_n 0, 1) := by decide +kernel
theorem dX4_step_97 : decode cX4_step 97 = .ok (.getfield 18, 3) := by decide +kernel
theorem dX4_step_100 : decode cX4_step 100 = .ok (.iload 5, 2) := by decide +kernel
theorem dX4_step_102 : decode cX4_step 102 = .ok (.iaload, 1) := by decide +kernel
theorem dX4_step_103 : decode cX4_step 103 = .ok (.iload_n 3, 1) := by decide +kernel
theorem dX4_step_104 : decode cX4_step 104 = .ok (.iload 4, 2) := by decide +kernel
theorem dX4_step_106 : decode cX4_step 106 = .ok (.aload_n 0, 1) := by decide +kernel
theorem dX4_step_107 : decode cX4_step 107 = .ok (.getfield 12, 3) := by decide +kernel
theorem dX4_step_110 : decode cX4_step 110 = .ok (.invokevirtual 86, 3) := by decide +kernel
theorem dX4_step_113 : decode cX4_step 113 = .ok (.iastore, 1) := by decide +kernel
theorem dX4_step_114 : decode cX4_step 114 = .ok (.iinc 5 1, 3) := by decide +kernel
theorem dX4_step_117 : decode cX4_step 117 = .ok (.goto (-79), 3) := by decide +kernel
theorem dX4_step_120 : decode cX4_step 120 = .ok (.return_, 1) := by decide +kernel
theorem dX4_difference_0 : decode cX4_difference 0 = .ok (.aload_n 0, 1) := by decide +kernel
theorem dX4_difference_1 : decode cX4_difference 1 = .ok (.aload_n 1, 1) := by decide +kernel
theorem dX4_difference_2 : decode cX4_difference 2 = .ok (.getfield 90, 3) := by decide +kernel
theorem dX4_difference_5 : decode cX4_difference 5 = .ok (.invokevirtual 48, 3) := by decide +kernel
theorem dX4_difference_8 : decode cX4_difference 8 = .ok (.aload_n 0, 1) := by decide +kernel
theorem dX4_difference_9 : decode cX4_difference 9 = .ok (.aload_n 1, 1) := by decide +kernel
theorem dX4_difference_10 : decode cX4_difference 10 = .ok (.getfield 93, 3) := by decide +kernel
theorem dX4_difference_13 : decode cX4_difference 13 = .ok (.invokevirtual 48, 3) := by decide +kernel
theorem dX4_difference_16 : decode cX4_difference 16 = .ok (.isub, 1) := by decide +kernel
theorem dX4_difference_17 : decode cX4_difference 17 = .ok (.ireturn, 1) := by decide +kernel
theorem dX4_answer_0 : decode cX4_answer 0 = .ok (.iload_n 1, 1) := by decide +kernel
theorem dX4_answer_1 : decode cX4_answer 1 = .ok (.ifCond .lt 21, 3) := by decide +kernel
theorem dX4_answer_4 : decode cX4_answer 4 = .ok (.iload_n 1, 1) := by decide +kernel
theorem dX4_answer_5 : decode cX4_answer 5 = .ok (.aload_n 0, 1) := by decide +kernel
theorem dX4_answer_6 : decode cX4_answer 6 = .ok (.getfield 18, 3) := by decide +kernel
theorem dX4_answer_9 : decode cX4_answer 9 = .ok (.arraylength, 1) := by decide +kernel
theorem dX4_answer_10 : decode cX4_answer 10 = .ok (.if_icmp .ge 12, 3) := by decide +kernel
theorem dX4_answer_13 : decode cX4_answer 13 = .ok (.aload_n 0, 1) := by decide +kernel
theorem dX4_answer_14 : decode cX4_answer 14 = .ok (.getfield 18, 3) := by decide +kernel
theorem dX4_answer_17 : decode cX4_answer 17 = .ok (.iload_n 1, 1) := by decide +kernel
theorem dX4_answer_18 : decode cX4_answer 18 = .ok (.iaload, 1) := by decide +kernel
theorem dX4_answer_19 : decode cX4_answer 19 = .ok (.goto 4, 3) := by decide +kernel
theorem dX4_answer_22 : decode cX4_answer 22 = .ok (.iconst 0, 1) := by decide +kernel
theorem dX4_answer_23 : decode cX4_answer 23 = .ok (.ireturn, 1) := by decide +kernel
theorem dX5_init_0 : decode cX5_init 0 = .ok (.aload_n 0, 1) := by decide +kernel
theorem dX5_init_1 : decode cX5_init 1 = .ok (.invokespecial 3, 3) := by decide +kernel
theorem dX5_init_4 : decode cX5_init 4 = .ok (.aload_n 0, 1) := by decide +kernel
theorem dX5_init_5 : decode cX5_init 5 = .ok (.new 9, 3) := by decide +kernel
theorem dX5_init_8 : decode cX5_init 8 = .ok (.dup, 1) := by decide +kernel
theorem dX5_init_9 : decode cX5_init 9 = .ok (.invokespecial 11, 3) := by decide +kernel
theorem dX5_init_12 : decode cX5_init 12 = .ok (.putfield 12, 3) := by decide +kernel
theorem dX5_init_15 : decode cX5_init 15 = .ok (.aload_n 0, 1) := by decide +kernel
theorem dX5_init_16 : decode cX5_init 16 = .ok (.iconst 2, 1) := by decide +kernel
theorem dX5_init_17 : decode cX5_init 17 = .ok (.anewarray 9, 3) := by decide +kernel
theorem dX5_init_20 : decode cX5_init 20 = .ok (.putfield 18, 3) := by decide +kernel
theorem dX5_init_23 : decode cX5_init 23 = .ok (.aload_n 0, 1) := by decide +kernel
theorem dX5_init_24 : decode cX5_init 24 = .ok (.iconst 2, 1) := by decide +kernel
theorem dX5_init_25 : decode cX5_init 25 = .ok (.newarray .boolean, 2) := by decide +kernel
theorem dX5_init_27 : decode cX5_init 27 = .ok (.putfield 22, 3) := by decide +kernel
theorem dX5_init_30 : decode cX5_init 30 = .ok (.iconst 0, 1) := by decide +kernel
theorem dX5_init_31 : decode cX5_init 31 = .ok (.istore_n 1, 1) := by decide +kernel
theorem dX5_init_32 : decode cX5_init 32 = .ok (.iload_n 1, 1) := by decide +kernel
theorem dX5_init_33 : decode cX5_init 33 = .ok (.aload_n 0, 1) := by decide +kernel
theorem dX5_init_34 : decode cX5_init 34 = .ok (.getfield 18, 3) := by decide +kernel
theorem dX5_init_37 : decode cX5_init 37 = .ok (.arraylength, 1) := by decide +kernel
theorem dX5_init_38 : decode cX5_init 38 = .ok (.if_icmp .ge 22, 3) := by decide +kernel
theorem dX5_init_41 : decode cX5_init 41 = .ok (.aload_n 0, 1) := by decide +kernel
theorem dX5_init_42 : decode cX5_init 42 = .ok (.getfield 18, 3) := by decide +kernel
theorem dX5_init_45 : decode cX5_init 45 = .ok (.iload_n 1, 1) := by decide +kernel
theorem dX5_init_46 : decode cX5_init 46 = .ok (.new 9, 3) := by decide +kernel
theorem dX5_init_49 : decode cX5_init 49 = .ok (.dup, 1) := by decide +kernel
theorem dX5_init_50 : decode cX5_init 50 = .ok (.invokespecial 11, 3) := by decide +kernel
theorem dX5_init_53 : decode cX5_init 53 = .ok (.aastore, 1) := by decide +kernel
theorem dX5_init_54 : decode cX5_init 54 = .ok (.iinc 1 1, 3) := by decide +kernel
theorem dX5_init_57 : decode cX5_init 57 = .ok (.goto (-25), 3) := by decide +kernel
theorem dX5_init_60 : decode cX5_init 60 = .ok (.return_, 1) := by decide +kernel
theorem dX5_isTaken_0 : decode cX5_isTaken 0 = .ok (.iload_n 1, 1) := by decide +kernel
theorem dX5_isTaken_1 : decode cX5_isTaken 1 = .ok (.ifCond .lt 25, 3) := by decide +kernel
theorem dX5_isTaken_4 : decode cX5_isTaken 4 = .ok (.iload_n 1, 1) := by decide +kernel
theorem dX5_isTaken_5 : decode cX5_isTaken 5 = .ok (.aload_n 0, 1) := by decide +kernel
theorem dX5_isTaken_6 : decode cX5_isTaken 6 = .ok (.getfield 22, 3) := by decide +kernel
theorem dX5_isTaken_9 : decode cX5_isTaken 9 = .ok (.arraylength, 1) := by decide +kernel
theorem dX5_isTaken_10 : decode cX5_isTaken 10 = .ok (.if_icmp .ge 16, 3) := by decide +kernel
theorem dX5_isTaken_13 : decode cX5_isTaken 13 = .ok (.aload_n 0, 1) := by decide +kernel
theorem dX5_isTaken_14 : decode cX5_isTaken 14 = .ok (.getfield 22, 3) := by decide +kernel
theorem dX5_isTaken_17 : decode cX5_isTaken 17 = .ok (.iload_n 1, 1) := by decide +kernel
theorem dX5_isTaken_18 : decode cX5_isTaken 18 = .ok (.baload, 1) := by decide +kernel
theorem dX5_isTaken_19 : decode cX5_isTaken 19 = .ok (.ifCond .eq 7, 3) := by decide +kernel
theorem dX5_isTaken_22 : decode cX5_isTaken 22 = .ok (.iconst 1, 1) := by decide +kernel
theorem dX5_isTaken_23 : decode cX5_isTaken 23 = .ok (.goto 4, 3) := by decide +kernel
theorem dX5_isTaken_26 : decode cX5_isTaken 26 = .ok (.iconst 0, 1) := by decide +kernel
theorem dX5_isTaken_27 : decode cX5_isTaken 27 = .ok (.ireturn, 1) := by decide +kernel
theorem dX5_snapshots_0 : decode cX5_snapshots 0 = .ok (.iconst 0, 1) := by decide +kernel
theorem dX5_snapshots_1 : decode cX5_snapshots 1 = .ok (.istore_n 1, 1) := by decide +kernel
theorem dX5_snapshots_2 : decode cX5_snapshots 2 = .ok (.iconst 0, 1) := by decide +kernel
theorem dX5_snapshots_3 : decode cX5_snapshots 3 = .ok (.istore_n 2, 1) := by decide +kernel
theorem dX5_snapshots_4 : decode cX5_snapshots 4 = .ok (.iload_n 2, 1) := by decide +kernel
theorem dX5_snapshots_5 : decode cX5_snapshots 5 = .ok (.iconst 2, 1) := by decide +kernel
theorem dX5_snapshots_6 : decode cX5_snapshots 6 = .ok (.if_icmp .ge 20, 3) := by decide +kernel
theorem dX5_snapshots_9 : decode cX5_snapshots 9 = .ok (.aload_n 0, 1) := by decide +kernel
theorem dX5_snapshots_10 : decode cX5_snapshots 10 = .ok (.iload_n 2, 1) := by decide +kernel
theorem dX5_snapshots_11 : decode cX5_snapshots 11 = .ok (.invokevirtual 26, 3) := by decide +kernel
theorem dX5_snapshots_14 : decode cX5_snapshots 14 = .ok (.ifCond .eq 6, 3) := by decide +kernel
theorem dX5_snapshots_17 : decode cX5_snapshots 17 = .ok (.iinc 1 1, 3) := by decide +kernel
theorem dX5_snapshots_20 : decode cX5_snapshots 20 = .ok (.iinc 2 1, 3) := by decide +kernel
theorem dX5_snapshots_23 : decode cX5_snapshots 23 = .ok (.goto (-19), 3) := by decide +kernel
theorem dX5_snapshots_26 : decode cX5_snapshots 26 = .ok (.iload_n 1, 1) := by decide +kernel
theorem dX5_snapshots_27 : decode cX5_snapshots 27 = .ok (.ireturn, 1) := by decide +kernel
theorem dX5_keepIn_0 : decode cX5_keepIn 0 = .ok (.iload_n 1, 1) := by decide +kernel
theorem dX5_keepIn_1 : decode cX5_keepIn 1 = .ok (.ifCond .lt 47, 3) := by decide +kernel
theorem dX5_keepIn_4 : decode cX5_keepIn 4 = .ok (.iload_n 1, 1) := by decide +kernel
theorem dX5_keepIn_5 : decode cX5_keepIn 5 = .ok (.aload_n 0, 1) := by decide +kernel
theorem dX5_keepIn_6 : decode cX5_keepIn 6 = .ok (.getfield 18, 3) := by decide +kernel
theorem dX5_keepIn_9 : decode cX5_keepIn 9 = .ok (.arraylength, 1) := by decide +kernel
theorem dX5_keepIn_10 : decode cX5_keepIn 10 = .ok (.if_icmp .ge 38, 3) := by decide +kernel
theorem dX5_keepIn_13 : decode cX5_keepIn 13 = .ok (.iload_n 1, 1) := by decide +kernel
theorem dX5_keepIn_14 : decode cX5_keepIn 14 = .ok (.aload_n 0, 1) := by decide +kernel
theorem dX5_keepIn_15 : decode cX5_keepIn 15 = .ok (.getfield 22, 3) := by decide +kernel
theorem dX5_keepIn_18 : decode cX5_keepIn 18 = .ok (.arraylength, 1) := by decide +kernel
theorem dX5_keepIn_19 : decode cX5_keepIn 19 = .ok (.if_icmp .ge 29, 3) := by decide +kernel
theorem dX5_keepIn_22 : decode cX5_keepIn 22 = .ok (.aload_n 0, 1) := by decide +kernel
theorem dX5_keepIn_23 : decode cX5_keepIn 23 = .ok (.getfield 18, 3) := by decide +kernel
theorem dX5_keepIn_26 : decode cX5_keepIn 26 = .ok (.iload_n 1, 1) := by decide +kernel
theorem dX5_keepIn_27 : decode cX5_keepIn 27 = .ok (.aaload, 1) := by decide +kernel
theorem dX5_keepIn_28 : decode cX5_keepIn 28 = .ok (.ifnull 20, 3) := by decide +kernel
theorem dX5_keepIn_31 : decode cX5_keepIn 31 = .ok (.aload_n 0, 1) := by decide +kernel
theorem dX5_keepIn_32 : decode cX5_keepIn 32 = .ok (.getfield 18, 3) := by decide +kernel
theorem dX5_keepIn_35 : decode cX5_keepIn 35 = .ok (.iload_n 1, 1) := by decide +kernel
theorem dX5_keepIn_36 : decode cX5_keepIn 36 = .ok (.aaload, 1) := by decide +kernel
theorem dX5_keepIn_37 : decode cX5_keepIn 37 = .ok (.aload_n 2, 1) := by decide +kernel
theorem dX5_keepIn_38 : decode cX5_keepIn 38 = .ok (.invokevirtual 30, 3) := by decide +kernel
theorem dX5_keepIn_41 : decode cX5_keepIn 41 = .ok (.aload_n 0, 1) := by decide +kernel
theorem dX5_keepIn_42 : decode cX5_keepIn 42 = .ok (.getfield 22, 3) := by decide +kernel
theorem dX5_keepIn_45 : decode cX5_keepIn 45 = .ok (.iload_n 1, 1) := by decide +kernel
theorem dX5_keepIn_46 : decode cX5_keepIn 46 = .ok (.iconst 1, 1) := by decide +kernel
theorem dX5_keepIn_47 : decode cX5_keepIn 47 = .ok (.bastore, 1) := by decide +kernel
theorem dX5_keepIn_48 : decode cX5_keepIn 48 = .ok (.return_, 1) := by decide +kernel
theorem dX5_snapshot_0 : decode cX5_snapshot 0 = .ok (.aload_n 0, 1) := by decide +kernel
theorem dX5_snapshot_1 : decode cX5_snapshot 1 = .ok (.iload_n 1, 1) := by decide +kernel
theorem dX5_snapshot_2 : decode cX5_snapshot 2 = .ok (.invokevirtual 26, 3) := by decide +kernel
theorem dX5_snapshot_5 : decode cX5_snapshot 5 = .ok (.ifCond .eq 21, 3) := by decide +kernel
theorem dX5_snapshot_8 : decode cX5_snapshot 8 = .ok (.iload_n 1, 1) := by decide +kernel
theorem dX5_snapshot_9 : decode cX5_snapshot 9 = .ok (.aload_n 0, 1) := by decide +kernel
theorem dX5_snapshot_10 : decode cX5_snapshot 10 = .ok (.getfield 18, 3) := by decide +kernel
theorem dX5_snapshot_13 : decode cX5_snapshot 13 = .ok (.arraylength, 1) := by decide +kernel
theorem dX5_snapshot_14 : decode cX5_snapshot 14 = .ok (.if_icmp .ge 12, 3) := by decide +kernel
theorem dX5_snapshot_17 : decode cX5_snapshot 17 = .ok (.aload_n 0, 1) := by decide +kernel
theorem dX5_snapshot_18 : decode cX5_snapshot 18 = .ok (.getfield 18, 3) := by decide +kernel
theorem dX5_snapshot_21 : decode cX5_snapshot 21 = .ok (.iload_n 1, 1) := by decide +kernel
theorem dX5_snapshot_22 : decode cX5_snapshot 22 = .ok (.aaload, 1) := by decide +kernel
theorem dX5_snapshot_23 : decode cX5_snapshot 23 = .ok (.goto 4, 3) := by decide +kernel
theorem dX5_snapshot_26 : decode cX5_snapshot 26 = .ok (.aconst_null, 1) := by decide +kernel
theorem dX5_snapshot_27 : decode cX5_snapshot 27 = .ok (.areturn, 1) := by decide +kernel
theorem dX5_copyFrom_0 : decode cX5_copyFrom 0 = .ok (.aload_n 0, 1) := by decide +kernel
theorem dX5_copyFrom_1 : decode cX5_copyFrom 1 = .ok (.getfield 12, 3) := by decide +kernel
theorem dX5_copyFrom_4 : decode cX5_copyFrom 4 = .ok (.aload_n 1, 1) := by decide +kernel
theorem dX5_copyFrom_5 : decode cX5_copyFrom 5 = .ok (.getfield 12, 3) := by decide +kernel
theorem dX5_copyFrom_8 : decode cX5_copyFrom 8 = .ok (.invokevirtual 30, 3) := by decide +kernel
theorem dX5_copyFrom_11 : decode cX5_copyFrom 11 = .ok (.iconst 0, 1) := by decide +kernel
theorem dX5_copyFrom_12 : decode cX5_copyFrom 12 = .ok (.istore_n 2, 1) := by decide +kernel
theorem dX5_copyFrom_13 : decode cX5_copyFrom 13 = .ok (.iload_n 2, 1) := by decide +kernel
theorem dX5_copyFrom_14 : decode cX5_copyFrom 14 = .ok (.aload_n 0, 1) := by decide +kernel
theorem dX5_copyFrom_15 : decode cX5_copyFrom 15 = .ok (.getfield 22, 3) := by decide +kernel
theorem dX5_copyFrom_18 : decode cX5_copyFrom 18 = .ok (.arraylength, 1) := by decide +kernel
theorem dX5_copyFrom_19 : decode cX5_copyFrom 19 = .ok (.if_icmp .ge 32, 3) := by decide +kernel
theorem dX5_copyFrom_22 : decode cX5_copyFrom 22 = .ok (.aload_n 0, 1) := by decide +kernel
theorem dX5_copyFrom_23 : decode cX5_copyFrom 23 = .ok (.getfield 22, 3) := by decide +kernel
theorem dX5_copyFrom_26 : decode cX5_copyFrom 26 = .ok (.iload_n 2, 1) := by decide +kernel
theorem dX5_copyFrom_27 : decode cX5_copyFrom 27 = .ok (.iconst 0, 1) := by decide +kernel
theorem dX5_copyFrom_28 : decode cX5_copyFrom 28 = .ok (.bastore, 1) := by decide +kernel
theorem dX5_copyFrom_29 : decode cX5_copyFrom 29 = .ok (.aload_n 1, 1) := by decide +kernel
theorem dX5_copyFrom_30 : decode cX5_copyFrom 30 = .ok (.iload_n 2, 1) := by decide +kernel
theorem dX5_copyFrom_31 : decode cX5_copyFrom 31 = .ok (.invokevirtual 34, 3) := by decide +kernel
theorem dX5_copyFrom_34 : decode cX5_copyFrom 34 = .ok (.astore_n 3, 1) := by decide +kernel
theorem dX5_copyFrom_35 : decode cX5_copyFrom 35 = .ok (.aload_n 3, 1) := by decide +kernel
theorem dX5_copyFrom_36 : decode cX5_copyFrom 36 = .ok (.ifnull 9, 3) := by decide +kernel
theorem dX5_copyFrom_39 : decode cX5_copyFrom 39 = .ok (.aload_n 0, 1) := by decide +kernel
theorem dX5_copyFrom_40 : decode cX5_copyFrom 40 = .ok (.iload_n 2, 1) := by decide +kernel
theorem dX5_copyFrom_41 : decode cX5_copyFrom 41 = .ok (.aload_n 3, 1) := by decide +kernel
theorem dX5_copyFrom_42 : decode cX5_copyFrom 42 = .ok (.invokevirtual 38, 3) := by decide +kernel
theorem dX5_copyFrom_45 : decode cX5_copyFrom 45 = .ok (.iinc 2 1, 3) := by decide +kernel
theorem dX5_copyFrom_48 : decode cX5_copyFrom 48 = .ok (.goto (-35), 3) := by decide +kernel
theorem dX5_copyFrom_51 : decode cX5_copyFrom 51 = .ok (.return_, 1) := by decide +kernel
theorem dX6_init_0 : decode cX6_init 0 = .ok (.aload_n 0, 1) := by decide +kernel
theorem dX6_init_1 : decode cX6_init 1 = .ok (.invokespecial 3, 3) := by decide +kernel
theorem dX6_init_4 : decode cX6_init 4 = .ok (.aload_n 0, 1) := by decide +kernel
theorem dX6_init_5 : decode cX6_init 5 = .ok (.bipush 24, 2) := by decide +kernel
theorem dX6_init_7 : decode cX6_init 7 = .ok (.newarray .int, 2) := by decide +kernel
theorem dX6_init_9 : decode cX6_init 9 = .ok (.putfield 9, 3) := by decide +kernel
theorem dX6_init_12 : decode cX6_init 12 = .ok (.return_, 1) := by decide +kernel
theorem dX6_empty_0 : decode cX6_empty 0 = .ok (.iconst 0, 1) := by decide +kernel
theorem dX6_empty_1 : decode cX6_empty 1 = .ok (.istore_n 1, 1) := by decide +kernel
theorem dX6_empty_2 : decode cX6_empty 2 = .ok (.iload_n 1, 1) := by decide +kernel
theorem dX6_empty_3 : decode cX6_empty 3 = .ok (.aload_n 0, 1) := by decide +kernel
theorem dX6_empty_4 : decode cX6_empty 4 = .ok (.getfield 9, 3) := by decide +kernel
theorem dX6_empty_7 : decode cX6_empty 7 = .ok (.arraylength, 1) := by decide +kernel
theorem dX6_empty_8 : decode cX6_empty 8 = .ok (.if_icmp .ge 16, 3) := by decide +kernel
theorem dX6_empty_11 : decode cX6_empty 11 = .ok (.aload_n 0, 1) := by decide +kernel
theorem dX6_empty_12 : decode cX6_empty 12 = .ok (.getfield 9, 3) := by decide +kernel
theorem dX6_empty_15 : decode cX6_empty 15 = .ok (.iload_n 1, 1) := by decide +kernel
theorem dX6_empty_16 : decode cX6_empty 16 = .ok (.iconst (-1), 1) := by decide +kernel
theorem dX6_empty_17 : decode cX6_empty 17 = .ok (.iastore, 1) := by decide +kernel
theorem dX6_empty_18 : decode cX6_empty 18 = .ok (.iinc 1 1, 3) := by decide +kernel
theorem dX6_empty_21 : decode cX6_empty 21 = .ok (.goto (-19), 3) := by decide +kernel
theorem dX6_empty_24 : decode cX6_empty 24 = .ok (.return_, 1) := by decide +kernel
theorem dX6_assign_0 : decode cX6_assign 0 = .ok (.iload_n 1, 1) := by decide +kernel
theorem dX6_assign_1 : decode cX6_assign 1 = .ok (.ifCond .lt 19, 3) := by decide +kernel
theorem dX6_assign_4 : decode cX6_assign 4 = .ok (.iload_n 1, 1) := by decide +kernel
theorem dX6_assign_5 : decode cX6_assign 5 = .ok (.aload_n 0, 1) := by decide +kernel
theorem dX6_assign_6 : decode cX6_assign 6 = .ok (.getfield 9, 3) := by decide +kernel
theorem dX6_assign_9 : decode cX6_assign 9 = .ok (.arraylength, 1) := by decide +kernel
theorem dX6_assign_10 : decode cX6_assign 10 = .ok (.if_icmp .ge 10, 3) := by decide +kernel
theorem dX6_assign_13 : decode cX6_assign 13 = .ok (.aload_n 0, 1) := by decide +kernel
theorem dX6_assign_14 : decode cX6_assign 14 = .ok (.getfield 9, 3) := by decide +kernel
theorem dX6_assign_17 : decode cX6_assign 17 = .ok (.iload_n 1, 1) := by decide +kernel
theorem dX6_assign_18 : decode cX6_assign 18 = .ok (.iload_n 2, 1) := by decide +kernel
theorem dX6_assign_19 : decode cX6_assign 19 = .ok (.iastore, 1) := by decide +kernel
theorem dX6_assign_20 : decode cX6_assign 20 = .ok (.return_, 1) := by decide +kernel
theorem dX6_at_0 : decode cX6_at 0 = .ok (.iload_n 1, 1) := by decide +kernel
theorem dX6_at_1 : decode cX6_at 1 = .ok (.ifCond .lt 21, 3) := by decide +kernel
theorem dX6_at_4 : decode cX6_at 4 = .ok (.iload_n 1, 1) := by decide +kernel
theorem dX6_at_5 : decode cX6_at 5 = .ok (.aload_n 0, 1) := by decide +kernel
theorem dX6_at_6 : decode cX6_at 6 = .ok (.getfield 9, 3) := by decide +kernel
theorem dX6_at_9 : decode cX6_at 9 = .ok (.arraylength, 1) := by decide +kernel
theorem dX6_at_10 : decode cX6_at 10 = .ok (.if_icmp .ge 12, 3) := by decide +kernel
theorem dX6_at_13 : decode cX6_at 13 = .ok (.aload_n 0, 1) := by decide +kernel
theorem dX6_at_14 : decode cX6_at 14 = .ok (.getfield 9, 3) := by decide +kernel
theorem dX6_at_17 : decode cX6_at 17 = .ok (.iload_n 1, 1) := by decide +kernel
theorem dX6_at_18 : decode cX6_at 18 = .ok (.iaload, 1) := by decide +kernel
theorem dX6_at_19 : decode cX6_at 19 = .ok (.goto 4, 3) := by decide +kernel
theorem dX6_at_22 : decode cX6_at 22 = .ok (.iconst (-1), 1) := by decide +kernel
theorem dX6_at_23 : decode cX6_at 23 = .ok (.ireturn, 1) := by decide +kernel
theorem dX7_init_0 : decode cX7_init 0 = .ok (.aload_n 0, 1) := by decide +kernel
theorem dX7_init_1 : decode cX7_init 1 = .ok (.invokespecial 3, 3) := by decide +kernel
theorem dX7_init_4 : decode cX7_init 4 = .ok (.aload_n 0, 1) := by decide +kernel
theorem dX7_init_5 : decode cX7_init 5 = .ok (.bipush 40, 2) := by decide +kernel
theorem dX7_init_7 : decode cX7_init 7 = .ok (.newarray .int, 2) := by decide +kernel
theorem dX7_init_9 : decode cX7_init 9 = .ok (.putfield 9, 3) := by decide +kernel
theorem dX7_init_12 : decode cX7_init 12 = .ok (.return_, 1) := by decide +kernel
theorem dX7_isFull_0 : decode cX7_isFull 0 = .ok (.aload_n 0, 1) := by decide +kernel
theorem dX7_isFull_1 : decode cX7_isFull 1 = .ok (.getfield 15, 3) := by decide +kernel
theorem dX7_isFull_4 : decode cX7_isFull 4 = .ok (.bipush 40, 2) := by decide +kernel
theorem dX7_isFull_6 : decode cX7_isFull 6 = .ok (.if_icmp .lt 7, 3) := by decide +kernel
theorem dX7_isFull_9 : decode cX7_isFull 9 = .ok (.iconst 1, 1) := by decide +kernel
theorem dX7_isFull_10 : decode cX7_isFull 10 = .ok (.goto 4, 3) := by decide +kernel
theorem dX7_isFull_13 : decode cX7_isFull 13 = .ok (.iconst 0, 1) := by decide +kernel
theorem dX7_isFull_14 : decode cX7_isFull 14 = .ok (.ireturn, 1) := by decide +kernel
theorem dX7_add_0 : decode cX7_add 0 = .ok (.aload_n 0, 1) := by decide +kernel
theorem dX7_add_1 : decode cX7_add 1 = .ok (.getfield 15, 3) := by decide +kernel
theorem dX7_add_4 : decode cX7_add 4 = .ok (.ifCond .lt 35, 3) := by decide +kernel
theorem dX7_add_7 : decode cX7_add 7 = .ok (.aload_n 0, 1) := by decide +kernel
theorem dX7_add_8 : decode cX7_add 8 = .ok (.getfield 15, 3) := by decide +kernel
theorem dX7_add_11 : decode cX7_add 11 = .ok (.aload_n 0, 1) := by decide +kernel
theorem dX7_add_12 : decode cX7_add 12 = .ok (.getfield 9, 3) := by decide +kernel
theorem dX7_add_15 : decode cX7_add 15 = .ok (.arraylength, 1) := by decide +kernel
theorem dX7_add_16 : decode cX7_add 16 = .ok (.if_icmp .ge 23, 3) := by decide +kernel
theorem dX7_add_19 : decode cX7_add 19 = .ok (.aload_n 0, 1) := by decide +kernel
theorem dX7_add_20 : decode cX7_add 20 = .ok (.getfield 9, 3) := by decide +kernel
theorem dX7_add_23 : decode cX7_add 23 = .ok (.aload_n 0, 1) := by decide +kernel
theorem dX7_add_24 : decode cX7_add 24 = .ok (.getfield 15, 3) := by decide +kernel
theorem dX7_add_27 : decode cX7_add 27 = .ok (.iload_n 1, 1) := by decide +kernel
theorem dX7_add_28 : decode cX7_add 28 = .ok (.iastore, 1) := by decide +kernel
theorem dX7_add_29 : decode cX7_add 29 = .ok (.aload_n 0, 1) := by decide +kernel
theorem dX7_add_30 : decode cX7_add 30 = .ok (.dup, 1) := by decide +kernel
theorem dX7_add_31 : decode cX7_add 31 = .ok (.getfield 15, 3) := by decide +kernel
theorem dX7_add_34 : decode cX7_add 34 = .ok (.iconst 1, 1) := by decide +kernel
theorem dX7_add_35 : decode cX7_add 35 = .ok (.iadd, 1) := by decide +kernel
theorem dX7_add_36 : decode cX7_add 36 = .ok (.putfield 15, 3) := by decide +kernel
theorem dX7_add_39 : decode cX7_add 39 = .ok (.return_, 1) := by decide +kernel
theorem dX7_empty_0 : decode cX7_empty 0 = .ok (.aload_n 0, 1) := by decide +kernel
theorem dX7_empty_1 : decode cX7_empty 1 = .ok (.iconst 0, 1) := by decide +kernel
theorem dX7_empty_2 : decode cX7_empty 2 = .ok (.putfield 15, 3) := by decide +kernel
theorem dX7_empty_5 : decode cX7_empty 5 = .ok (.return_, 1) := by decide +kernel
theorem dX7_at_0 : decode cX7_at 0 = .ok (.iload_n 1, 1) := by decide +kernel
theorem dX7_at_1 : decode cX7_at 1 = .ok (.ifCond .lt 29, 3) := by decide +kernel
theorem dX7_at_4 : decode cX7_at 4 = .ok (.iload_n 1, 1) := by decide +kernel
theorem dX7_at_5 : decode cX7_at 5 = .ok (.aload_n 0, 1) := by decide +kernel
theorem dX7_at_6 : decode cX7_at 6 = .ok (.getfield 15, 3) := by decide +kernel
theorem dX7_at_9 : decode cX7_at 9 = .ok (.if_icmp .ge 21, 3) := by decide +kernel
theorem dX7_at_12 : decode cX7_at 12 = .ok (.iload_n 1, 1) := by decide +kernel
theorem dX7_at_13 : decode cX7_at 13 = .ok (.aload_n 0, 1) := by decide +kernel
theorem dX7_at_14 : decode cX7_at 14 = .ok (.getfield 9, 3) := by decide +kernel
theorem dX7_at_17 : decode cX7_at 17 = .ok (.arraylength, 1) := by decide +kernel
theorem dX7_at_18 : decode cX7_at 18 = .ok (.if_icmp .ge 12, 3) := by decide +kernel
theorem dX7_at_21 : decode cX7_at 21 = .ok (.aload_n 0, 1) := by decide +kernel
theorem dX7_at_22 : decode cX7_at 22 = .ok (.getfield 9, 3) := by decide +kernel
theorem dX7_at_25 : decode cX7_at 25 = .ok (.iload_n 1, 1) := by decide +kernel
theorem dX7_at_26 : decode cX7_at 26 = .ok (.iaload, 1) := by decide +kernel
theorem dX7_at_27 : decode cX7_at 27 = .ok (.goto 4, 3) := by decide +kernel
theorem dX7_at_30 : decode cX7_at 30 = .ok (.iconst 0, 1) := by decide +kernel
theorem dX7_at_31 : decode cX7_at 31 = .ok (.ireturn, 1) := by decide +kernel
theorem dX8_init_0 : decode cX8_init 0 = .ok (.aload_n 0, 1) := by decide +kernel
theorem dX8_init_1 : decode cX8_init 1 = .ok (.invokespecial 3, 3) := by decide +kernel
theorem dX8_init_4 : decode cX8_init 4 = .ok (.return_, 1) := by decide +kernel
theorem dX8_pose_0 : decode cX8_pose 0 = .ok (.aload_n 0, 1) := by decide +kernel
theorem dX8_pose_1 : decode cX8_pose 1 = .ok (.iload_n 1, 1) := by decide +kernel
theorem dX8_pose_2 : decode cX8_pose 2 = .ok (.putfield 9, 3) := by decide +kernel
theorem dX8_pose_5 : decode cX8_pose 5 = .ok (.aload_n 0, 1) := by decide +kernel
theorem dX8_pose_6 : decode cX8_pose 6 = .ok (.iload_n 2, 1) := by decide +kernel
theorem dX8_pose_7 : decode cX8_pose 7 = .ok (.putfield 15, 3) := by decide +kernel
theorem dX8_pose_10 : decode cX8_pose 10 = .ok (.aload_n 0, 1) := by decide +kernel
theorem dX8_pose_11 : decode cX8_pose 11 = .ok (.iload_n 3, 1) := by decide +kernel
theorem dX8_pose_12 : decode cX8_pose 12 = .ok (.putfield 18, 3) := by decide +kernel
theorem dX8_pose_15 : decode cX8_pose 15 = .ok (.aload_n 0, 1) := by decide +kernel
theorem dX8_pose_16 : decode cX8_pose 16 = .ok (.iload 4, 2) := by decide +kernel
theorem dX8_pose_18 : decode cX8_pose 18 = .ok (.putfield 21, 3) := by decide +kernel
theorem dX8_pose_21 : decode cX8_pose 21 = .ok (.return_, 1) := by decide +kernel
theorem dX8_concern_0 : decode cX8_concern 0 = .ok (.aload_n 0, 1) := by decide +kernel
theorem dX8_concern_1 : decode cX8_concern 1 = .ok (.iload_n 1, 1) := by decide +kernel
theorem dX8_concern_2 : decode cX8_concern 2 = .ok (.putfield 24, 3) := by decide +kernel
theorem dX8_concern_5 : decode cX8_concern 5 = .ok (.aload_n 0, 1) := by decide +kernel
theorem dX8_concern_6 : decode cX8_concern 6 = .ok (.iload_n 2, 1) := by decide +kernel
theorem dX8_concern_7 : decode cX8_concern 7 = .ok (.putfield 27, 3) := by decide +kernel
theorem dX8_concern_10 : decode cX8_concern 10 = .ok (.return_, 1) := by decide +kernel
theorem dX8_begin_0 : decode cX8_begin 0 = .ok (.aload_n 0, 1) := by decide +kernel
theorem dX8_begin_1 : decode cX8_begin 1 = .ok (.iconst 1, 1) := by decide +kernel
theorem dX8_begin_2 : decode cX8_begin 2 = .ok (.putfield 30, 3) := by decide +kernel
theorem dX8_begin_5 : decode cX8_begin 5 = .ok (.aload_n 0, 1) := by decide +kernel
theorem dX8_begin_6 : decode cX8_begin 6 = .ok (.iload_n 1, 1) := by decide +kernel
theorem dX8_begin_7 : decode cX8_begin 7 = .ok (.invokevirtual 34, 3) := by decide +kernel
theorem dX8_begin_10 : decode cX8_begin 10 = .ok (.return_, 1) := by decide +kernel
theorem dX8_standAnew_0 : decode cX8_standAnew 0 = .ok (.aload_n 0, 1) := by decide +kernel
theorem dX8_standAnew_1 : decode cX8_standAnew 1 = .ok (.iconst 0, 1) := by decide +kernel
theorem dX8_standAnew_2 : decode cX8_standAnew 2 = .ok (.putfield 38, 3) := by decide +kernel
theorem dX8_standAnew_5 : decode cX8_standAnew 5 = .ok (.aload_n 0, 1) := by decide +kernel
theorem dX8_standAnew_6 : decode cX8_standAnew 6 = .ok (.iload_n 1, 1) := by decide +kernel
theorem dX8_standAnew_7 : decode cX8_standAnew 7 = .ok (.putfield 41, 3) := by decide +kernel
theorem dX8_standAnew_10 : decode cX8_standAnew 10 = .ok (.aload_n 0, 1) := by decide +kernel
theorem dX8_standAnew_11 : decode cX8_standAnew 11 = .ok (.iconst 0, 1) := by decide +kernel
theorem dX8_standAnew_12 : decode cX8_standAnew 12 = .ok (.putfield 44, 3) := by decide +kernel
theorem dX8_standAnew_15 : decode cX8_standAnew 15 = .ok (.return_, 1) := by decide +kernel
theorem dX8_fail_0 : decode cX8_fail 0 = .ok (.aload_n 0, 1) := by decide +kernel
theorem dX8_fail_1 : decode cX8_fail 1 = .ok (.iconst 1, 1) := by decide +kernel
theorem dX8_fail_2 : decode cX8_fail 2 = .ok (.putfield 38, 3) := by decide +kernel
theorem dX8_fail_5 : decode cX8_fail 5 = .ok (.aload_n 0, 1) := by decide +kernel
theorem dX8_fail_6 : decode cX8_fail 6 = .ok (.iconst 0, 1) := by decide +kernel
theorem dX8_fail_7 : decode cX8_fail 7 = .ok (.putfield 44, 3) := by decide +kernel
theorem dX8_fail_10 : decode cX8_fail 10 = .ok (.return_, 1) := by decide +kernel
theorem dX8_hasTable_0 : decode cX8_hasTable 0 = .ok (.aload_n 0, 1) := by decide +kernel
theorem dX8_hasTable_1 : decode cX8_hasTable 1 = .ok (.getfield 9, 3) := by decide +kernel
theorem dX8_hasTable_4 : decode cX8_hasTable 4 = .ok (.ifCond .eq 19, 3) := by decide +kernel
theorem dX8_hasTable_7 : decode cX8_hasTable 7 = .ok (.aload_n 0, 1) := by decide +kernel
theorem dX8_hasTable_8 : decode cX8_hasTable 8 = .ok (.getfield 9, 3) := by decide +kernel
theorem dX8_hasTable_11 : decode cX8_hasTable 11 = .ok (.iconst 1, 1) := by decide +kernel
theorem dX8_hasTable_12 : decode cX8_hasTable 12 = .ok (.if_icmp .eq 11, 3) := by decide +kernel
theorem dX8_hasTable_15 : decode cX8_hasTable 15 = .ok (.aload_n 0, 1) := by decide +kernel
theorem dX8_hasTable_16 : decode cX8_hasTable 16 = .ok (.getfield 9, 3) := by decide +kernel
theorem dX8_hasTable_19 : decode cX8_hasTable 19 = .ok (.iconst 2, 1) := by decide +kernel
theorem dX8_hasTable_20 : decode cX8_hasTable 20 = .ok (.if_icmp .ne 7, 3) := by decide +kernel
theorem dX8_hasTable_23 : decode cX8_hasTable 23 = .ok (.iconst 1, 1) := by decide +kernel
theorem dX8_hasTable_24 : decode cX8_hasTable 24 = .ok (.goto 4, 3) := by decide +kernel
theorem dX8_hasTable_27 : decode cX8_hasTable 27 = .ok (.iconst 0, 1) := by decide +kernel
theorem dX8_hasTable_28 : decode cX8_hasTable 28 = .ok (.ireturn, 1) := by decide +kernel
theorem dX8_isMadeOf_0 : decode cX8_isMadeOf 0 = .ok (.aload_n 0, 1) := by decide +kernel
theorem dX8_isMadeOf_1 : decode cX8_isMadeOf 1 = .ok (.getfield 9, 3) := by decide +kernel
theorem dX8_isMadeOf_4 : decode cX8_isMadeOf 4 = .ok (.iconst 4, 1) := by decide +kernel
theorem dX8_isMadeOf_5 : decode cX8_isMadeOf 5 = .ok (.if_icmp .ne 23, 3) := by decide +kernel
theorem dX8_isMadeOf_8 : decode cX8_isMadeOf 8 = .ok (.aload_n 0, 1) := by decide +kernel
theorem dX8_isMadeOf_9 : decode cX8_isMadeOf 9 = .ok (.getfield 18, 3) := by decide +kernel
theorem dX8_isMadeOf_12 : decode cX8_isMadeOf 12 = .ok (.iload_n 1, 1) := by decide +kernel
theorem dX8_isMadeOf_13 : decode cX8_isMadeOf 13 = .ok (.if_icmp .eq 11, 3) := by decide +kernel
theorem dX8_isMadeOf_16 : decode cX8_isMadeOf 16 = .ok (.aload_n 0, 1) := by decide +kernel
theorem dX8_isMadeOf_17 : decode cX8_isMadeOf 17 = .ok (.getfield 21, 3) := by decide +kernel
theorem dX8_isMadeOf_20 : decode cX8_isMadeOf 20 = .ok (.iload_n 1, 1) := by decide +kernel
theorem dX8_isMadeOf_21 : decode cX8_isMadeOf 21 = .ok (.if_icmp .ne 7, 3) := by decide +kernel
theorem dX8_isMadeOf_24 : decode cX8_isMadeOf 24 = .ok (.iconst 1, 1) := by decide +kernel
theorem dX8_isMadeOf_25 : decode cX8_isMadeOf 25 = .ok (.goto 4, 3) := by decide +kernel
theorem dX8_isMadeOf_28 : decode cX8_isMadeOf 28 = .ok (.iconst 0, 1) := by decide +kernel
theorem dX8_isMadeOf_29 : decode cX8_isMadeOf 29 = .ok (.ireturn, 1) := by decide +kernel
theorem dX8_isConcernedBy_0 : decode cX8_isConcernedBy 0 = .ok (.iload_n 1, 1) := by decide +kernel
theorem dX8_isConcernedBy_1 : decode cX8_isConcernedBy 1 = .ok (.ifCond .lt 24, 3) := by decide +kernel
theorem dX8_isConcernedBy_4 : decode cX8_isConcernedBy 4 = .ok (.iload_n 1, 1) := by decide +kernel
theorem dX8_isConcernedBy_5 : decode cX8_isConcernedBy 5 = .ok (.bipush 24, 2) := by decide +kernel
theorem dX8_isConcernedBy_7 : decode cX8_isConcernedBy 7 = .ok (.if_icmp .ge 18, 3) := by decide +kernel
theorem dX8_isConcernedBy_10 : decode cX8_isConcernedBy 10 = .ok (.aload_n 0, 1) := by decide +kernel
theorem dX8_isConcernedBy_11 : decode cX8_isConcernedBy 11 = .ok (.getfield 24, 3) := by decide +kernel
theorem dX8_isConcernedBy_14 : decode cX8_isConcernedBy 14 = .ok (.iconst 1, 1) := by decide +kernel
theorem dX8_isConcernedBy_15 : decode cX8_isConcernedBy 15 = .ok (.iload_n 1, 1) := by decide +kernel
theorem dX8_isConcernedBy_16 : decode cX8_isConcernedBy 16 = .ok (.ishl, 1) := by decide +kernel
theorem dX8_isConcernedBy_17 : decode cX8_isConcernedBy 17 = .ok (.iand, 1) := by decide +kernel
theorem dX8_isConcernedBy_18 : decode cX8_isConcernedBy 18 = .ok (.ifCond .eq 7, 3) := by decide +kernel
theorem dX8_isConcernedBy_21 : decode cX8_isConcernedBy 21 = .ok (.iconst 1, 1) := by decide +kernel
theorem dX8_isConcernedBy_22 : decode cX8_isConcernedBy 22 = .ok (.goto 4, 3) := by decide +kernel
theorem dX8_isConcernedBy_25 : decode cX8_isConcernedBy 25 = .ok (.iconst 0, 1) := by decide +kernel
theorem dX8_isConcernedBy_26 : decode cX8_isConcernedBy 26 = .ok (.ireturn, 1) := by decide +kernel
theorem dX8_rangeCells_0 : decode cX8_rangeCells 0 = .ok (.iconst 1, 1) := by decide +kernel
theorem dX8_rangeCells_1 : decode cX8_rangeCells 1 = .ok (.aload_n 0, 1) := by decide +kernel
theorem dX8_rangeCells_2 : decode cX8_rangeCells 2 = .ok (.getfield 21, 3) := by decide +kernel
theorem dX8_rangeCells_5 : decode cX8_rangeCells 5 = .ok (.aload_n 0, 1) := by decide +kernel
theorem dX8_rangeCells_6 : decode cX8_rangeCells 6 = .ok (.getfield 18, 3) := by decide +kernel
theorem dX8_rangeCells_9 : decode cX8_rangeCells 9 = .ok (.isub, 1) := by decide +kernel
theorem dX8_rangeCells_10 : decode cX8_rangeCells 10 = .ok (.iconst 1, 1) := by decide +kernel
theorem dX8_rangeCells_11 : decode cX8_rangeCells 11 = .ok (.iadd, 1) := by decide +kernel
theorem dX8_rangeCells_12 : decode cX8_rangeCells 12 = .ok (.ishl, 1) := by decide +kernel
theorem dX8_rangeCells_13 : decode cX8_rangeCells 13 = .ok (.iconst 1, 1) := by decide +kernel
theorem dX8_rangeCells_14 : decode cX8_rangeCells 14 = .ok (.isub, 1) := by decide +kernel
theorem dX8_rangeCells_15 : decode cX8_rangeCells 15 = .ok (.aload_n 0, 1) := by decide +kernel
theorem dX8_rangeCells_16 : decode cX8_rangeCells 16 = .ok (.getfield 18, 3) := by decide +kernel
theorem dX8_rangeCells_19 : decode cX8_rangeCells 19 = .ok (.ishl, 1) := by decide +kernel
theorem dX8_rangeCells_20 : decode cX8_rangeCells 20 = .ok (.istore_n 1, 1) := by decide +kernel
theorem dX8_rangeCells_21 : decode cX8_rangeCells 21 = .ok (.aload_n 0, 1) := by decide +kernel
theorem dX8_rangeCells_22 : decode cX8_rangeCells 22 = .ok (.getfield 9, 3) := by decide +kernel
theorem dX8_rangeCells_25 : decode cX8_rangeCells 25 = .ok (.iconst 3, 1) := by decide +kernel
theorem dX8_rangeCells_26 : decode cX8_rangeCells 26 = .ok (.if_icmp .ne 19, 3) := by decide +kernel
theorem dX8_rangeCells_29 : decode cX8_rangeCells 29 = .ok (.iload_n 1, 1) := by decide +kernel
theorem dX8_rangeCells_30 : decode cX8_rangeCells 30 = .ok (.iconst 0, 1) := by decide +kernel
theorem dX8_rangeCells_31 : decode cX8_rangeCells 31 = .ok (.iconst 0, 1) := by decide +kernel
theorem dX8_rangeCells_32 : decode cX8_rangeCells 32 = .ok (.invokestatic 47, 3) := by decide +kernel
theorem dX8_rangeCells_35 : decode cX8_rangeCells 35 = .ok (.ishl, 1) := by decide +kernel
theorem dX8_rangeCells_36 : decode cX8_rangeCells 36 = .ok (.iload_n 1, 1) := by decide +kernel
theorem dX8_rangeCells_37 : decode cX8_rangeCells 37 = .ok (.iconst 1, 1) := by decide +kernel
theorem dX8_rangeCells_38 : decode cX8_rangeCells 38 = .ok (.iconst 0, 1) := by decide +kernel
theorem dX8_rangeCells_39 : decode cX8_rangeCells 39 = .ok (.invokestatic 47, 3) := by decide +kernel
theorem dX8_rangeCells_42 : decode cX8_rangeCells 42 = .ok (.ishl, 1) := by decide +kernel
theorem dX8_rangeCells_43 : decode cX8_rangeCells 43 = .ok (.ior, 1) := by decide +kernel
theorem dX8_rangeCells_44 : decode cX8_rangeCells 44 = .ok (.ireturn, 1) := by decide +kernel
theorem dX8_rangeCells_45 : decode cX8_rangeCells 45 = .ok (.iload_n 1, 1) := by decide +kernel
theorem dX8_rangeCells_46 : decode cX8_rangeCells 46 = .ok (.aload_n 0, 1) := by decide +kernel
theorem dX8_rangeCells_47 : decode cX8_rangeCells 47 = .ok (.getfield 15, 3) := by decide +kernel
theorem dX8_rangeCells_50 : decode cX8_rangeCells 50 = .ok (.iconst 0, 1) := by decide +kernel
theorem dX8_rangeCells_51 : decode cX8_rangeCells 51 = .ok (.invokestatic 47, 3) := by decide +kernel
theorem dX8_rangeCells_54 : decode cX8_rangeCells 54 = .ok (.ishl, 1) := by decide +kernel
theorem dX8_rangeCells_55 : decode cX8_rangeCells 55 = .ok (.ireturn, 1) := by decide +kernel
theorem dX8_rangeKeys_0 : decode cX8_rangeKeys 0 = .ok (.aload_n 0, 1) := by decide +kernel
theorem dX8_rangeKeys_1 : decode cX8_rangeKeys 1 = .ok (.getfield 21, 3) := by decide +kernel
theorem dX8_rangeKeys_4 : decode cX8_rangeKeys 4 = .ok (.aload_n 0, 1) := by decide +kernel
theorem dX8_rangeKeys_5 : decode cX8_rangeKeys 5 = .ok (.getfield 18, 3) := by decide +kernel
theorem dX8_rangeKeys_8 : decode cX8_rangeKeys 8 = .ok (.isub, 1) := by decide +kernel
theorem dX8_rangeKeys_9 : decode cX8_rangeKeys 9 = .ok (.iconst 1, 1) := by decide +kernel
theorem dX8_rangeKeys_10 : decode cX8_rangeKeys 10 = .ok (.iadd, 1) := by decide +kernel
theorem dX8_rangeKeys_11 : decode cX8_rangeKeys 11 = .ok (.ireturn, 1) := by decide +kernel
theorem dX8_rangeAnswer_0 : decode cX8_rangeAnswer 0 = .ok (.aload_n 0, 1) := by decide +kernel
theorem dX8_rangeAnswer_1 : decode cX8_rangeAnswer 1 = .ok (.getfield 9, 3) := by decide +kernel
theorem dX8_rangeAnswer_4 : decode cX8_rangeAnswer 4 = .ok (.iconst 2, 1) := by decide +kernel
theorem dX8_rangeAnswer_5 : decode cX8_rangeAnswer 5 = .ok (.if_icmp .ne 7, 3) := by decide +kernel
theorem dX8_rangeAnswer_8 : decode cX8_rangeAnswer 8 = .ok (.iconst (-1), 1) := by decide +kernel
theorem dX8_rangeAnswer_9 : decode cX8_rangeAnswer 9 = .ok (.goto 4, 3) := by decide +kernel
theorem dX8_rangeAnswer_12 : decode cX8_rangeAnswer 12 = .ok (.iconst 0, 1) := by decide +kernel
theorem dX8_rangeAnswer_13 : decode cX8_rangeAnswer 13 = .ok (.istore_n 2, 1) := by decide +kernel
theorem dX8_rangeAnswer_14 : decode cX8_rangeAnswer 14 = .ok (.aload_n 0, 1) := by decide +kernel
theorem dX8_rangeAnswer_15 : decode cX8_rangeAnswer 15 = .ok (.getfield 18, 3) := by decide +kernel
theorem dX8_rangeAnswer_18 : decode cX8_rangeAnswer 18 = .ok (.istore_n 3, 1) := by decide +kernel
theorem dX8_rangeAnswer_19 : decode cX8_rangeAnswer 19 = .ok (.iload_n 3, 1) := by decide +kernel
theorem dX8_rangeAnswer_20 : decode cX8_rangeAnswer 20 = .ok (.aload_n 0, 1) := by decide +kernel
theorem dX8_rangeAnswer_21 : decode cX8_rangeAnswer 21 = .ok (.getfield 21, 3) := by decide +kernel
theorem dX8_rangeAnswer_24 : decode cX8_rangeAnswer 24 = .ok (.if_icmp .gt 118, 3) := by decide +kernel
theorem dX8_rangeAnswer_27 : decode cX8_rangeAnswer 27 = .ok (.iload_n 3, 1) := by decide +kernel
theorem dX8_rangeAnswer_28 : decode cX8_rangeAnswer 28 = .ok (.bipush 12, 2) := by decide +kernel
theorem dX8_rangeAnswer_30 : decode cX8_rangeAnswer 30 = .ok (.if_icmp .ge 112, 3) := by decide +kernel
theorem dX8_rangeAnswer_33 : decode cX8_rangeAnswer 33 = .ok (.aload_n 1, 1) := by decide +kernel
theorem dX8_rangeAnswer_34 : decode cX8_rangeAnswer 34 = .ok (.aload_n 0, 1) := by decide +kernel
theorem dX8_rangeAnswer_35 : decode cX8_rangeAnswer 35 = .ok (.getfield 15, 3) := by decide +kernel
theorem dX8_rangeAnswer_38 : decode cX8_rangeAnswer 38 = .ok (.iload_n 3, 1) := by decide +kernel
theorem dX8_rangeAnswer_39 : decode cX8_rangeAnswer 39 = .ok (.invokestatic 47, 3) := by decide +kernel
theorem dX8_rangeAnswer_42 : decode cX8_rangeAnswer 42 = .ok (.invokevirtual 51, 3) := by decide +kernel
theorem dX8_rangeAnswer_45 : decode cX8_rangeAnswer 45 = .ok (.istore 4, 2) := by decide +kernel
theorem dX8_rangeAnswer_47 : decode cX8_rangeAnswer 47 = .ok (.aload_n 0, 1) := by decide +kernel
theorem dX8_rangeAnswer_48 : decode cX8_rangeAnswer 48 = .ok (.getfield 9, 3) := by decide +kernel
theorem dX8_rangeAnswer_51 : decode cX8_rangeAnswer 51 = .ok (.tableswitch 57 0 2 #[25, 36, 47], 25) := by decide +kernel
theorem dX8_rangeAnswer_76 : decode cX8_rangeAnswer 76 = .ok (.iload_n 2, 1) := by decide +kernel
theorem dX8_rangeAnswer_77 : decode cX8_rangeAnswer 77 = .ok (.iload 4, 2) := by decide +kernel
theorem dX8_rangeAnswer_79 : decode cX8_rangeAnswer 79 = .ok (.invokestatic 57, 3) := by decide +kernel
theorem dX8_rangeAnswer_82 : decode cX8_rangeAnswer 82 = .ok (.iadd, 1) := by decide +kernel
theorem dX8_rangeAnswer_83 : decode cX8_rangeAnswer 83 = .ok (.istore_n 2, 1) := by decide +kernel
theorem dX8_rangeAnswer_84 : decode cX8_rangeAnswer 84 = .ok (.goto 52, 3) := by decide +kernel
theorem dX8_rangeAnswer_87 : decode cX8_rangeAnswer 87 = .ok (.iload_n 2, 1) := by decide +kernel
theorem dX8_rangeAnswer_88 : decode cX8_rangeAnswer 88 = .ok (.iload 4, 2) := by decide +kernel
theorem dX8_rangeAnswer_90 : decode cX8_rangeAnswer 90 = .ok (.invokestatic 60, 3) := by decide +kernel
theorem dX8_rangeAnswer_93 : decode cX8_rangeAnswer 93 = .ok (.iadd, 1) := by decide +kernel
theorem dX8_rangeAnswer_94 : decode cX8_rangeAnswer 94 = .ok (.istore_n 2, 1) := by decide +kernel
theorem dX8_rangeAnswer_95 : decode cX8_rangeAnswer 95 = .ok (.goto 41, 3) := by decide +kernel
theorem dX8_rangeAnswer_98 : decode cX8_rangeAnswer 98 = .ok (.iload_n 2, 1) := by decide +kernel
theorem dX8_rangeAnswer_99 : decode cX8_rangeAnswer 99 = .ok (.iload 4, 2) := by decide +kernel
theorem dX8_rangeAnswer_101 : decode cX8_rangeAnswer 101 = .ok (.invokestatic 63, 3) := by decide +kernel
theorem dX8_rangeAnswer_104 : decode cX8_rangeAnswer 104 = .ok (.istore_n 2, 1) := by decide +kernel
theorem dX8_rangeAnswer_105 : decode cX8_rangeAnswer 105 = .ok (.goto 31, 3) := by decide +kernel
theorem dX8_rangeAnswer_108 : decode cX8_rangeAnswer 108 = .ok (.iload_n 2, 1) := by decide +kernel
theorem dX8_rangeAnswer_109 : decode cX8_rangeAnswer 109 = .ok (.aload_n 1, 1) := by decide +kernel
theorem dX8_rangeAnswer_110 : decode cX8_rangeAnswer 110 = .ok (.iconst 0, 1) := by decide +kernel
theorem dX8_rangeAnswer_111 : decode cX8_rangeAnswer 111 = .ok (.iload_n 3, 1) := by decide +kernel
theorem dX8_rangeAnswer_112 : decode cX8_rangeAnswer 112 = .ok (.invokestatic 47, 3) := by decide +kernel
theorem dX8_rangeAnswer_115 : decode cX8_rangeAnswer 115 = .ok (.invokevirtual 51, 3) := by decide +kernel
theorem dX8_rangeAnswer_118 : decode cX8_rangeAnswer 118 = .ok (.invokestatic 57, 3) := by decide +kernel
theorem dX8_rangeAnswer_121 : decode cX8_rangeAnswer 121 = .ok (.aload_n 1, 1) := by decide +kernel
theorem dX8_rangeAnswer_122 : decode cX8_rangeAnswer 122 = .ok (.iconst 1, 1) := by decide +kernel
theorem dX8_rangeAnswer_123 : decode cX8_rangeAnswer 123 = .ok (.iload_n 3, 1) := by decide +kernel
theorem dX8_rangeAnswer_124 : decode cX8_rangeAnswer 124 = .ok (.invokestatic 47, 3) := by decide +kernel
theorem dX8_rangeAnswer_127 : decode cX8_rangeAnswer 127 = .ok (.invokevirtual 51, 3) := by decide +kernel
theorem dX8_rangeAnswer_130 : decode cX8_rangeAnswer 130 = .ok (.invokestatic 57, 3) := by decide +kernel
theorem dX8_rangeAnswer_133 : decode cX8_rangeAnswer 133 = .ok (.imul, 1) := by decide +kernel
theorem dX8_rangeAnswer_134 : decode cX8_rangeAnswer 134 = .ok (.iadd, 1) := by decide +kernel
theorem dX8_rangeAnswer_135 : decode cX8_rangeAnswer 135 = .ok (.istore_n 2, 1) := by decide +kernel
theorem dX8_rangeAnswer_136 : decode cX8_rangeAnswer 136 = .ok (.iinc 3 1, 3) := by decide +kernel
theorem dX8_rangeAnswer_139 : decode cX8_rangeAnswer 139 = .ok (.goto (-120), 3) := by decide +kernel
theorem dX8_rangeAnswer_142 : decode cX8_rangeAnswer 142 = .ok (.iload_n 2, 1) := by decide +kernel
theorem dX8_rangeAnswer_143 : decode cX8_rangeAnswer 143 = .ok (.ireturn, 1) := by decide +kernel
theorem dX8_revisedAnswer_0 : decode cX8_revisedAnswer 0 = .ok (.aload 4, 2) := by decide +kernel
theorem dX8_revisedAnswer_2 : decode cX8_revisedAnswer 2 = .ok (.iload_n 2, 1) := by decide +kernel
theorem dX8_revisedAnswer_3 : decode cX8_revisedAnswer 3 = .ok (.invokevirtual 51, 3) := by decide +kernel
theorem dX8_revisedAnswer_6 : decode cX8_revisedAnswer 6 = .ok (.istore 5, 2) := by decide +kernel
theorem dX8_revisedAnswer_8 : decode cX8_revisedAnswer 8 = .ok (.iload 5, 2) := by decide +kernel
theorem dX8_revisedAnswer_10 : decode cX8_revisedAnswer 10 = .ok (.invokestatic 57, 3) := by decide +kernel
theorem dX8_revisedAnswer_13 : decode cX8_revisedAnswer 13 = .ok (.iload_n 3, 1) := by decide +kernel
theorem dX8_revisedAnswer_14 : decode cX8_revisedAnswer 14 = .ok (.invokestatic 57, 3) := by decide +kernel
theorem dX8_revisedAnswer_17 : decode cX8_revisedAnswer 17 = .ok (.isub, 1) := by decide +kernel
theorem dX8_revisedAnswer_18 : decode cX8_revisedAnswer 18 = .ok (.istore 6, 2) := by decide +kernel
theorem dX8_revisedAnswer_20 : decode cX8_revisedAnswer 20 = .ok (.aload_n 0, 1) := by decide +kernel
theorem dX8_revisedAnswer_21 : decode cX8_revisedAnswer 21 = .ok (.getfield 9, 3) := by decide +kernel
theorem dX8_revisedAnswer_24 : decode cX8_revisedAnswer 24 = .ok (.tableswitch 71 0 2 #[28, 33, 46], 28) := by decide +kernel
theorem dX8_revisedAnswer_52 : decode cX8_revisedAnswer 52 = .ok (.iload_n 1, 1) := by decide +kernel
theorem dX8_revisedAnswer_53 : decode cX8_revisedAnswer 53 = .ok (.iload 6, 2) := by decide +kernel
theorem dX8_revisedAnswer_55 : decode cX8_revisedAnswer 55 = .ok (.iadd, 1) := by decide +kernel
theorem dX8_revisedAnswer_56 : decode cX8_revisedAnswer 56 = .ok (.ireturn, 1) := by decide +kernel
theorem dX8_revisedAnswer_57 : decode cX8_revisedAnswer 57 = .ok (.iload_n 1, 1) := by decide +kernel
theorem dX8_revisedAnswer_58 : decode cX8_revisedAnswer 58 = .ok (.iload 5, 2) := by decide +kernel
theorem dX8_revisedAnswer_60 : decode cX8_revisedAnswer 60 = .ok (.invokestatic 60, 3) := by decide +kernel
theorem dX8_revisedAnswer_63 : decode cX8_revisedAnswer 63 = .ok (.iadd, 1) := by decide +kernel
theorem dX8_revisedAnswer_64 : decode cX8_revisedAnswer 64 = .ok (.iload_n 3, 1) := by decide +kernel
theorem dX8_revisedAnswer_65 : decode cX8_revisedAnswer 65 = .ok (.invokestatic 60, 3) := by decide +kernel
theorem dX8_revisedAnswer_68 : decode cX8_revisedAnswer 68 = .ok (.isub, 1) := by decide +kernel
theorem dX8_revisedAnswer_69 : decode cX8_revisedAnswer 69 = .ok (.ireturn, 1) := by decide +kernel
theorem dX8_revisedAnswer_70 : decode cX8_revisedAnswer 70 = .ok (.iload 5, 2) := by decide +kernel
theorem dX8_revisedAnswer_72 : decode cX8_revisedAnswer 72 = .ok (.iload_n 1, 1) := by decide +kernel
theorem dX8_revisedAnswer_73 : decode cX8_revisedAnswer 73 = .ok (.if_icmp .lt 6, 3) := by decide +kernel
theorem dX8_revisedAnswer_76 : decode cX8_revisedAnswer 76 = .ok (.iload 5, 2) := by decide +kernel
theorem dX8_revisedAnswer_78 : decode cX8_revisedAnswer 78 = .ok (.ireturn, 1) := by decide +kernel
theorem dX8_revisedAnswer_79 : decode cX8_revisedAnswer 79 = .ok (.iload_n 3, 1) := by decide +kernel
theorem dX8_revisedAnswer_80 : decode cX8_revisedAnswer 80 = .ok (.iload_n 1, 1) := by decide +kernel
theorem dX8_revisedAnswer_81 : decode cX8_revisedAnswer 81 = .ok (.if_icmp .ne 12, 3) := by decide +kernel
theorem dX8_revisedAnswer_84 : decode cX8_revisedAnswer 84 = .ok (.aload_n 0, 1) := by decide +kernel
theorem dX8_revisedAnswer_85 : decode cX8_revisedAnswer 85 = .ok (.aload 4, 2) := by decide +kernel
theorem dX8_revisedAnswer_87 : decode cX8_revisedAnswer 87 = .ok (.invokevirtual 68, 3) := by decide +kernel
theorem dX8_revisedAnswer_90 : decode cX8_revisedAnswer 90 = .ok (.goto 4, 3) := by decide +kernel
theorem dX8_revisedAnswer_93 : decode cX8_revisedAnswer 93 = .ok (.iload_n 1, 1) := by decide +kernel
theorem dX8_revisedAnswer_94 : decode cX8_revisedAnswer 94 = .ok (.ireturn, 1) := by decide +kernel
theorem dX8_revisedAnswer_95 : decode cX8_revisedAnswer 95 = .ok (.iload_n 2, 1) := by decide +kernel
theorem dX8_revisedAnswer_96 : decode cX8_revisedAnswer 96 = .ok (.bipush 12, 2) := by decide +kernel
theorem dX8_revisedAnswer_98 : decode cX8_revisedAnswer 98 = .ok (.if_icmp .ge 10, 3) := by decide +kernel
theorem dX8_revisedAnswer_101 : decode cX8_revisedAnswer 101 = .ok (.iload_n 2, 1) := by decide +kernel
theorem dX8_revisedAnswer_102 : decode cX8_revisedAnswer 102 = .ok (.bipush 12, 2) := by decide +kernel
theorem dX8_revisedAnswer_104 : decode cX8_revisedAnswer 104 = .ok (.iadd, 1) := by decide +kernel
theorem dX8_revisedAnswer_105 : decode cX8_revisedAnswer 105 = .ok (.goto 7, 3) := by decide +kernel
theorem dX8_revisedAnswer_108 : decode cX8_revisedAnswer 108 = .ok (.iload_n 2, 1) := by decide +kernel
theorem dX8_revisedAnswer_109 : decode cX8_revisedAnswer 109 = .ok (.bipush 12, 2) := by decide +kernel
theorem dX8_revisedAnswer_111 : decode cX8_revisedAnswer 111 = .ok (.isub, 1) := by decide +kernel
theorem dX8_revisedAnswer_112 : decode cX8_revisedAnswer 112 = .ok (.istore 7, 2) := by decide +kernel
theorem dX8_revisedAnswer_114 : decode cX8_revisedAnswer 114 = .ok (.iload_n 1, 1) := by decide +kernel
theorem dX8_revisedAnswer_115 : decode cX8_revisedAnswer 115 = .ok (.iload 6, 2) := by decide +kernel
theorem dX8_revisedAnswer_117 : decode cX8_revisedAnswer 117 = .ok (.aload 4, 2) := by decide +kernel
theorem dX8_revisedAnswer_119 : decode cX8_revisedAnswer 119 = .ok (.iload 7, 2) := by decide +kernel
theorem dX8_revisedAnswer_121 : decode cX8_revisedAnswer 121 = .ok (.invokevirtual 51, 3) := by decide +kernel
theorem dX8_revisedAnswer_124 : decode cX8_revisedAnswer 124 = .ok (.invokestatic 57, 3) := by decide +kernel
theorem dX8_revisedAnswer_127 : decode cX8_revisedAnswer 127 = .ok (.imul, 1) := by decide +kernel
theorem dX8_revisedAnswer_128 : decode cX8_revisedAnswer 128 = .ok (.iadd, 1) := by decide +kernel
theorem dX8_revisedAnswer_129 : decode cX8_revisedAnswer 129 = .ok (.ireturn, 1) := by decide +kernel
theorem dX8_copyFrom_0 : decode cX8_copyFrom 0 = .ok (.aload_n 0, 1) := by decide +kernel
theorem dX8_copyFrom_1 : decode cX8_copyFrom 1 = .ok (.aload_n 1, 1) := by decide +kernel
theorem dX8_copyFrom_2 : decode cX8_copyFrom 2 = .ok (.getfield 30, 3) := by decide +kernel
theorem dX8_copyFrom_5 : decode cX8_copyFrom 5 = .ok (.putfield 30, 3) := by decide +kernel
theorem dX8_copyFrom_8 : decode cX8_copyFrom 8 = .ok (.aload_n 0, 1) := by decide +kernel
theorem dX8_copyFrom_9 : decode cX8_copyFrom 9 = .ok (.aload_n 1, 1) := by decide +kernel
theorem dX8_copyFrom_10 : decode cX8_copyFrom 10 = .ok (.getfield 9, 3) := by decide +kernel
theorem dX8_copyFrom_13 : decode cX8_copyFrom 13 = .ok (.aload_n 1, 1) := by decide +kernel
theorem dX8_copyFrom_14 : decode cX8_copyFrom 14 = .ok (.getfield 15, 3) := by decide +kernel
theorem dX8_copyFrom_17 : decode cX8_copyFrom 17 = .ok (.aload_n 1, 1) := by decide +kernel
theorem dX8_copyFrom_18 : decode cX8_copyFrom 18 = .ok (.getfield 18, 3) := by decide +kernel
theorem dX8_copyFrom_21 : decode cX8_copyFrom 21 = .ok (.aload_n 1, 1) := by decide +kernel
theorem dX8_copyFrom_22 : decode cX8_copyFrom 22 = .ok (.getfield 21, 3) := by decide +kernel
theorem dX8_copyFrom_25 : decode cX8_copyFrom 25 = .ok (.invokevirtual 72, 3) := by decide +kernel
theorem dX8_copyFrom_28 : decode cX8_copyFrom 28 = .ok (.aload_n 0, 1) := by decide +kernel
theorem dX8_copyFrom_29 : decode cX8_copyFrom 29 = .ok (.aload_n 1, 1) := by decide +kernel
theorem dX8_copyFrom_30 : decode cX8_copyFrom 30 = .ok (.getfield 24, 3) := by decide +kernel
theorem dX8_copyFrom_33 : decode cX8_copyFrom 33 = .ok (.aload_n 1, 1) := by decide +kernel
theorem dX8_copyFrom_34 : decode cX8_copyFrom 34 = .ok (.getfield 27, 3) := by decide +kernel
theorem dX8_copyFrom_37 : decode cX8_copyFrom 37 = .ok (.invokevirtual 76, 3) := by decide +kernel
theorem dX8_copyFrom_40 : decode cX8_copyFrom 40 = .ok (.aload_n 0, 1) := by decide +kernel
theorem dX8_copyFrom_41 : decode cX8_copyFrom 41 = .ok (.aload_n 1, 1) := by decide +kernel
theorem dX8_copyFrom_42 : decode cX8_copyFrom 42 = .ok (.getfield 38, 3) := by decide +kernel
theorem dX8_copyFrom_45 : decode cX8_copyFrom 45 = .ok (.putfield 38, 3) := by decide +kernel
theorem dX8_copyFrom_48 : decode cX8_copyFrom 48 = .ok (.aload_n 0, 1) := by decide +kernel
theorem dX8_copyFrom_49 : decode cX8_copyFrom 49 = .ok (.aload_n 1, 1) := by decide +kernel
theorem dX8_copyFrom_50 : decode cX8_copyFrom 50 = .ok (.getfield 41, 3) := by decide +kernel
theorem dX8_copyFrom_53 : decode cX8_copyFrom 53 = .ok (.putfield 41, 3) := by decide +kernel
theorem dX8_copyFrom_56 : decode cX8_copyFrom 56 = .ok (.aload_n 0, 1) := by decide +kernel
theorem dX8_copyFrom_57 : decode cX8_copyFrom 57 = .ok (.aload_n 1, 1) := by decide +kernel
theorem dX8_copyFrom_58 : decode cX8_copyFrom 58 = .ok (.getfield 44, 3) := by decide +kernel
theorem dX8_copyFrom_61 : decode cX8_copyFrom 61 = .ok (.putfield 44, 3) := by decide +kernel
theorem dX8_copyFrom_64 : decode cX8_copyFrom 64 = .ok (.aload_n 0, 1) := by decide +kernel
theorem dX8_copyFrom_65 : decode cX8_copyFrom 65 = .ok (.aload_n 1, 1) := by decide +kernel
theorem dX8_copyFrom_66 : decode cX8_copyFrom 66 = .ok (.getfield 80, 3) := by decide +kernel
theorem dX8_copyFrom_69 : decode cX8_copyFrom 69 = .ok (.putfield 80, 3) := by decide +kernel
theorem dX8_copyFrom_72 : decode cX8_copyFrom 72 = .ok (.return_, 1) := by decide +kernel
theorem dX9_init_0 : decode cX9_init 0 = .ok (.aload_n 0, 1) := by decide +kernel
theorem dX9_init_1 : decode cX9_init 1 = .ok (.invokespecial 3, 3) := by decide +kernel
theorem dX9_init_4 : decode cX9_init 4 = .ok (.aload_n 0, 1) := by decide +kernel
theorem dX9_init_5 : decode cX9_init 5 = .ok (.new 9, 3) := by decide +kernel
theorem dX9_init_8 : decode cX9_init 8 = .ok (.dup, 1) := by decide +kernel
theorem dX9_init_9 : decode cX9_init 9 = .ok (.invokespecial 11, 3) := by decide +kernel
theorem dX9_init_12 : decode cX9_init 12 = .ok (.putfield 12, 3) := by decide +kernel
theorem dX9_init_15 : decode cX9_init 15 = .ok (.aload_n 0, 1) := by decide +kernel
theorem dX9_init_16 : decode cX9_init 16 = .ok (.new 16, 3) := by decide +kernel
theorem dX9_init_19 : decode cX9_init 19 = .ok (.dup, 1) := by decide +kernel
theorem dX9_init_20 : decode cX9_init 20 = .ok (.invokespecial 18, 3) := by decide +kernel
theorem dX9_init_23 : decode cX9_init 23 = .ok (.putfield 19, 3) := by decide +kernel
theorem dX9_init_26 : decode cX9_init 26 = .ok (.aload_n 0, 1) := by decide +kernel
theorem dX9_init_27 : decode cX9_init 27 = .ok (.new 23, 3) := by decide +kernel
theorem dX9_init_30 : decode cX9_init 30 = .ok (.dup, 1) := by decide +kernel
theorem dX9_init_31 : decode cX9_init 31 = .ok (.invokespecial 25, 3) := by decide +kernel
theorem dX9_init_34 : decode cX9_init 34 = .ok (.putfield 26, 3) := by decide +kernel
theorem dX9_init_37 : decode cX9_init 37 = .ok (.aload_n 0, 1) := by decide +kernel
theorem dX9_init_38 : decode cX9_init 38 = .ok (.new 30, 3) := by decide +kernel
theorem dX9_init_41 : decode cX9_init 41 = .ok (.dup, 1) := by decide +kernel
theorem dX9_init_42 : decode cX9_init 42 = .ok (.invokespecial 32, 3) := by decide +kernel
theorem dX9_init_45 : decode cX9_init 45 = .ok (.putfield 33, 3) := by decide +kernel
theorem dX9_init_48 : decode cX9_init 48 = .ok (.aload_n 0, 1) := by decide +kernel
theorem dX9_init_49 : decode cX9_init 49 = .ok (.new 37, 3) := by decide +kernel
theorem dX9_init_52 : decode cX9_init 52 = .ok (.dup, 1) := by decide +kernel
theorem dX9_init_53 : decode cX9_init 53 = .ok (.invokespecial 39, 3) := by decide +kernel
theorem dX9_init_56 : decode cX9_init 56 = .ok (.putfield 40, 3) := by decide +kernel
theorem dX9_init_59 : decode cX9_init 59 = .ok (.return_, 1) := by decide +kernel
theorem dX9_put_0 : decode cX9_put 0 = .ok (.iload_n 1, 1) := by decide +kernel
theorem dX9_put_1 : decode cX9_put 1 = .ok (.iload_n 2, 1) := by decide +kernel
theorem dX9_put_2 : decode cX9_put 2 = .ok (.invokestatic 44, 3) := by decide +kernel
theorem dX9_put_5 : decode cX9_put 5 = .ok (.ifCond .eq 14, 3) := by decide +kernel
theorem dX9_put_8 : decode cX9_put 8 = .ok (.iload_n 3, 1) := by decide +kernel
theorem dX9_put_9 : decode cX9_put 9 = .ok (.iconst (-1), 1) := by decide +kernel
theorem dX9_put_10 : decode cX9_put 10 = .ok (.if_icmp .lt 9, 3) := by decide +kernel
theorem dX9_put_13 : decode cX9_put 13 = .ok (.iload_n 3, 1) := by decide +kernel
theorem dX9_put_14 : decode cX9_put 14 = .ok (.bipush 99, 2) := by decide +kernel
theorem dX9_put_16 : decode cX9_put 16 = .ok (.if_icmp .le 6, 3) := by decide +kernel
theorem dX9_put_19 : decode cX9_put 19 = .ok (.ldc 48, 2) := by decide +kernel
theorem dX9_put_21 : decode cX9_put 21 = .ok (.ireturn, 1) := by decide +kernel
theorem dX9_put_22 : decode cX9_put 22 = .ok (.aload_n 0, 1) := by decide +kernel
theorem dX9_put_23 : decode cX9_put 23 = .ok (.getfield 19, 3) := by decide +kernel
theorem dX9_put_26 : decode cX9_put 26 = .ok (.getfield 49, 3) := by decide +kernel
theorem dX9_put_29 : decode cX9_put 29 = .ok (.getfield 52, 3) := by decide +kernel
theorem dX9_put_32 : decode cX9_put 32 = .ok (.astore 4, 2) := by decide +kernel
theorem dX9_put_34 : decode cX9_put 34 = .ok (.aload 4, 2) := by decide +kernel
theorem dX9_put_36 : decode cX9_put 36 = .ok (.invokevirtual 56, 3) := by decide +kernel
theorem dX9_put_39 : decode cX9_put 39 = .ok (.ifCond .eq 6, 3) := by decide +kernel
theorem dX9_put_42 : decode cX9_put 42 = .ok (.ldc 62, 2) := by decide +kernel
theorem dX9_put_44 : decode cX9_put 44 = .ok (.ireturn, 1) := by decide +kernel
theorem dX9_put_45 : decode cX9_put 45 = .ok (.aload_n 0, 1) := by decide +kernel
theorem dX9_put_46 : decode cX9_put 46 = .ok (.getfield 26, 3) := by decide +kernel
theorem dX9_put_49 : decode cX9_put 49 = .ok (.aload_n 0, 1) := by decide +kernel
theorem dX9_put_50 : decode cX9_put 50 = .ok (.getfield 19, 3) := by decide +kernel
theorem dX9_put_53 : decode cX9_put 53 = .ok (.invokevirtual 63, 3) := by decide +kernel
theorem dX9_put_56 : decode cX9_put 56 = .ok (.aload 4, 2) := by decide +kernel
theorem dX9_put_58 : decode cX9_put 58 = .ok (.iload_n 1, 1) := by decide +kernel
theorem dX9_put_59 : decode cX9_put 59 = .ok (.iload_n 2, 1) := by decide +kernel
theorem dX9_put_60 : decode cX9_put 60 = .ok (.invokestatic 67, 3) := by decide +kernel
theorem dX9_put_63 : decode cX9_put 63 = .ok (.iload_n 3, 1) := by decide +kernel
theorem dX9_put_64 : decode cX9_put 64 = .ok (.invokevirtual 71, 3) := by decide +kernel
theorem dX9_put_67 : decode cX9_put 67 = .ok (.ireturn, 1) := by decide +kernel
theorem dX9_define_0 : decode cX9_define 0 = .ok (.aload_n 0, 1) := by decide +kernel
theorem dX9_define_1 : decode cX9_define 1 = .ok (.getfield 12, 3) := by decide +kernel
theorem dX9_define_4 : decode cX9_define 4 = .ok (.invokevirtual 74, 3) := by decide +kernel
theorem dX9_define_7 : decode cX9_define 7 = .ok (.aload_n 0, 1) := by decide +kernel
theorem dX9_define_8 : decode cX9_define 8 = .ok (.getfield 12, 3) := by decide +kernel
theorem dX9_define_11 : decode cX9_define 11 = .ok (.invokevirtual 77, 3) := by decide +kernel
theorem dX9_define_14 : decode cX9_define 14 = .ok (.ifCond .eq 15, 3) := by decide +kernel
theorem dX9_define_17 : decode cX9_define 17 = .ok (.sipush (-1000), 3) := by decide +kernel
theorem dX9_define_20 : decode cX9_define 20 = .ok (.aload_n 0, 1) := by decide +kernel
theorem dX9_define_21 : decode cX9_define 21 = .ok (.getfield 12, 3) := by decide +kernel
theorem dX9_define_24 : decode cX9_define 24 = .ok (.getfield 80, 3) := by decide +kernel
theorem dX9_define_27 : decode cX9_define 27 = .ok (.isub, 1) := by decide +kernel
theorem dX9_define_28 : decode cX9_define 28 = .ok (.ireturn, 1) := by decide +kernel
theorem dX9_define_29 : decode cX9_define 29 = .ok (.aload_n 0, 1) := by decide +kernel
theorem dX9_define_30 : decode cX9_define 30 = .ok (.getfield 19, 3) := by decide +kernel
theorem dX9_define_33 : decode cX9_define 33 = .ok (.getfield 49, 3) := by decide +kernel
theorem dX9_define_36 : decode cX9_define 36 = .ok (.astore_n 1, 1) := by decide +kernel
theorem dX9_define_37 : decode cX9_define 37 = .ok (.aload_n 1, 1) := by decide +kernel
theorem dX9_define_38 : decode cX9_define 38 = .ok (.aload_n 0, 1) := by decide +kernel
theorem dX9_define_39 : decode cX9_define 39 = .ok (.getfield 12, 3) := by decide +kernel
theorem dX9_define_42 : decode cX9_define 42 = .ok (.getfield 84, 3) := by decide +kernel
theorem dX9_define_45 : decode cX9_define 45 = .ok (.aload_n 0, 1) := by decide +kernel
theorem dX9_define_46 : decode cX9_define 46 = .ok (.getfield 12, 3) := by decide +kernel
theorem dX9_define_49 : decode cX9_define 49 = .ok (.getfield 87, 3) := by decide +kernel
theorem dX9_define_52 : decode cX9_define 52 = .ok (.aload_n 0, 1) := by decide +kernel
theorem dX9_define_53 : decode cX9_define 53 = .ok (.getfield 12, 3) := by decide +kernel
theorem dX9_define_56 : decode cX9_define 56 = .ok (.getfield 90, 3) := by decide +kernel
theorem dX9_define_59 : decode cX9_define 59 = .ok (.invokevirtual 93, 3) := by decide +kernel
theorem dX9_define_62 : decode cX9_define 62 = .ok (.ifCond .ne 6, 3) := by decide +kernel
theorem dX9_define_65 : decode cX9_define 65 = .ok (.ldc 48, 2) := by decide +kernel
theorem dX9_define_67 : decode cX9_define 67 = .ok (.ireturn, 1) := by decide +kernel
theorem dX9_define_68 : decode cX9_define 68 = .ok (.aload_n 1, 1) := by decide +kernel
theorem dX9_define_69 : decode cX9_define 69 = .ok (.getfield 97, 3) := by decide +kernel
theorem dX9_define_72 : decode cX9_define 72 = .ok (.bipush 8, 2) := by decide +kernel
theorem dX9_define_74 : decode cX9_define 74 = .ok (.if_icmp .lt 6, 3) := by decide +kernel
theorem dX9_define_77 : decode cX9_define 77 = .ok (.ldc 62, 2) := by decide +kernel
theorem dX9_define_79 : decode cX9_define 79 = .ok (.ireturn, 1) := by decide +kernel
theorem dX9_define_80 : decode cX9_define 80 = .ok (.aload_n 0, 1) := by decide +kernel
theorem dX9_define_81 : decode cX9_define 81 = .ok (.getfield 26, 3) := by decide +kernel
theorem dX9_define_84 : decode cX9_define 84 = .ok (.aload_n 0, 1) := by decide +kernel
theorem dX9_define_85 : decode cX9_define 85 = .ok (.getfield 19, 3) := by decide +kernel
theorem dX9_define_88 : decode cX9_define 88 = .ok (.invokevirtual 63, 3) := by decide +kernel
theorem dX9_define_91 : decode cX9_define 91 = .ok (.aload_n 0, 1) := by decide +kernel
theorem dX9_define_92 : decode cX9_define 92 = .ok (.getfield 12, 3) := by decide +kernel
theorem dX9_define_95 : decode cX9_define 95 = .ok (.getfield 100, 3) := by decide +kernel
theorem dX9_define_98 : decode cX9_define 98 = .ok (.invokevirtual 104, 3) := by decide +kernel
theorem dX9_define_101 : decode cX9_define 101 = .ok (.aload_n 1, 1) := by decide +kernel
theorem dX9_define_102 : decode cX9_define 102 = .ok (.aload_n 0, 1) := by decide +kernel
theorem dX9_define_103 : decode cX9_define 103 = .ok (.getfield 12, 3) := by decide +kernel
theorem dX9_define_106 : decode cX9_define 106 = .ok (.getfield 84, 3) := by decide +kernel
theorem dX9_define_109 : decode cX9_define 109 = .ok (.aload_n 0, 1) := by decide +kernel
theorem dX9_define_110 : decode cX9_define 110 = .ok (.getfield 12, 3) := by decide +kernel
theorem dX9_define_113 : decode cX9_define 113 = .ok (.getfield 109, 3) := by decide +kernel
theorem dX9_define_116 : decode cX9_define 116 = .ok (.aload_n 0, 1) := by decide +kernel
theorem dX9_define_117 : decode cX9_define 117 = .ok (.getfield 12, 3) := by decide +kernel
theorem dX9_define_120 : decode cX9_define 120 = .ok (.getfield 87, 3) := by decide +kernel
theorem dX9_define_123 : decode cX9_define 123 = .ok (.aload_n 0, 1) := by decide +kernel
theorem dX9_define_124 : decode cX9_define 124 = .ok (.getfield 12, 3) := by decide +kernel
theorem dX9_define_127 : decode cX9_define 127 = .ok (.getfield 90, 3) := by decide +kernel
theorem dX9_define_130 : decode cX9_define 130 = .ok (.invokevirtual 112, 3) := by decide +kernel
theorem dX9_define_133 : decode cX9_define 133 = .ok (.ireturn, 1) := by decide +kernel
theorem dX9_drop_0 : decode cX9_drop 0 = .ok (.aload_n 0, 1) := by decide +kernel
theorem dX9_drop_1 : decode cX9_drop 1 = .ok (.getfield 19, 3) := by decide +kernel
theorem dX9_drop_4 : decode cX9_drop 4 = .ok (.getfield 49, 3) := by decide +kernel
theorem dX9_drop_7 : decode cX9_drop 7 = .ok (.astore_n 2, 1) := by decide +kernel
theorem dX9_drop_8 : decode cX9_drop 8 = .ok (.aload_n 2, 1) := by decide +kernel
theorem dX9_drop_9 : decode cX9_drop 9 = .ok (.iload_n 1, 1) := by decide +kernel
theorem dX9_drop_10 : decode cX9_drop 10 = .ok (.invokevirtual 116, 3) := by decide +kernel
theorem dX9_drop_13 : decode cX9_drop 13 = .ok (.astore_n 3, 1) := by decide +kernel
theorem dX9_drop_14 : decode cX9_drop 14 = .ok (.aload_n 3, 1) := by decide +kernel
theorem dX9_drop_15 : decode cX9_drop 15 = .ok (.ifnonnull 6, 3) := by decide +kernel
theorem dX9_drop_18 : decode cX9_drop 18 = .ok (.ldc 48, 2) := by decide +kernel
theorem dX9_drop_20 : decode cX9_drop 20 = .ok (.ireturn, 1) := by decide +kernel
theorem dX9_drop_21 : decode cX9_drop 21 = .ok (.aload_n 2, 1) := by decide +kernel
theorem dX9_drop_22 : decode cX9_drop 22 = .ok (.iload_n 1, 1) := by decide +kernel
theorem dX9_drop_23 : decode cX9_drop 23 = .ok (.invokevirtual 120, 3) := by decide +kernel
theorem dX9_drop_26 : decode cX9_drop 26 = .ok (.ifCond .eq 6, 3) := by decide +kernel
theorem dX9_drop_29 : decode cX9_drop 29 = .ok (.ldc 124, 2) := by decide +kernel
theorem dX9_drop_31 : decode cX9_drop 31 = .ok (.ireturn, 1) := by decide +kernel
theorem dX9_drop_32 : decode cX9_drop 32 = .ok (.aload_n 0, 1) := by decide +kernel
theorem dX9_drop_33 : decode cX9_drop 33 = .ok (.getfield 26, 3) := by decide +kernel
theorem dX9_drop_36 : decode cX9_drop 36 = .ok (.aload_n 0, 1) := by decide +kernel
theorem dX9_drop_37 : decode cX9_drop 37 = .ok (.getfield 19, 3) := by decide +kernel
theorem dX9_drop_40 : decode cX9_drop 40 = .ok (.invokevirtual 63, 3) := by decide +kernel
theorem dX9_drop_43 : decode cX9_drop 43 = .ok (.aload_n 3, 1) := by decide +kernel
theorem dX9_drop_44 : decode cX9_drop 44 = .ok (.iconst 0, 1) := by decide +kernel
theorem dX9_drop_45 : decode cX9_drop 45 = .ok (.putfield 125, 3) := by decide +kernel
theorem dX9_drop_48 : decode cX9_drop 48 = .ok (.aload_n 2, 1) := by decide +kernel
theorem dX9_drop_49 : decode cX9_drop 49 = .ok (.iconst 0, 1) := by decide +kernel
theorem dX9_drop_50 : decode cX9_drop 50 = .ok (.invokevirtual 131, 3) := by decide +kernel
theorem dX9_drop_53 : decode cX9_drop 53 = .ok (.invokestatic 135, 3) := by decide +kernel
theorem dX9_drop_56 : decode cX9_drop 56 = .ok (.ireturn, 1) := by decide +kernel
theorem dX9_set_0 : decode cX9_set 0 = .ok (.iload_n 1, 1) := by decide +kernel
theorem dX9_set_1 : decode cX9_set 1 = .ok (.iload_n 2, 1) := by decide +kernel
