theorem dX0_init_0 : decode cX0_init 0 = .ok (.aload_n 0, 1) := by decide +kernel
theorem dX0_init_1 : decode cX0_init 1 = .ok (.invokespecial 3, 3) := by decide +kernel
theorem dX0_init_4 : decode cX0_init 4 = .ok (.aload_n 0, 1) := by decide +kernel
theorem dX0_init_5 : decode cX0_init 5 = .ok (.new 9, 3) := by decide +kernel
theorem dX0_init_8 : decode cX0_init 8 = .ok (.dup, 1) := by decide +kernel
theorem dX0_init_9 : decode cX0_init 9 = .ok (.invokespecial 11, 3) := by decide +kernel
theorem dX0_init_12 : decode cX0_init 12 = .ok (.putfield 12, 3) := by decide +kernel
theorem dX0_init_15 : decode cX0_init 15 = .ok (.aload_n 0, 1) := by decide +kernel
theorem dX0_init_16 : decode cX0_init 16 = .ok (.bipush 8, 2) := by decide +kernel
theorem dX0_init_18 : decode cX0_init 18 = .ok (.anewarray 18, 3) := by decide +kernel
theorem dX0_init_21 : decode cX0_init 21 = .ok (.putfield 20, 3) := by decide +kernel
theorem dX0_init_24 : decode cX0_init 24 = .ok (.aload_n 0, 1) := by decide +kernel
theorem dX0_init_25 : decode cX0_init 25 = .ok (.bipush 6, 2) := by decide +kernel
theorem dX0_init_27 : decode cX0_init 27 = .ok (.newarray .int, 2) := by decide +kernel
theorem dX0_init_29 : decode cX0_init 29 = .ok (.putfield 24, 3) := by decide +kernel
theorem dX0_init_32 : decode cX0_init 32 = .ok (.aload_n 0, 1) := by decide +kernel
theorem dX0_init_33 : decode cX0_init 33 = .ok (.bipush 8, 2) := by decide +kernel
theorem dX0_init_35 : decode cX0_init 35 = .ok (.newarray .int, 2) := by decide +kernel
theorem dX0_init_37 : decode cX0_init 37 = .ok (.putfield 28, 3) := by decide +kernel
theorem dX0_init_40 : decode cX0_init 40 = .ok (.iconst 0, 1) := by decide +kernel
theorem dX0_init_41 : decode cX0_init 41 = .ok (.istore_n 1, 1) := by decide +kernel
theorem dX0_init_42 : decode cX0_init 42 = .ok (.iload_n 1, 1) := by decide +kernel
theorem dX0_init_43 : decode cX0_init 43 = .ok (.aload_n 0, 1) := by decide +kernel
theorem dX0_init_44 : decode cX0_init 44 = .ok (.getfield 20, 3) := by decide +kernel
theorem dX0_init_47 : decode cX0_init 47 = .ok (.arraylength, 1) := by decide +kernel
theorem dX0_init_48 : decode cX0_init 48 = .ok (.if_icmp .ge 22, 3) := by decide +kernel
theorem dX0_init_51 : decode cX0_init 51 = .ok (.aload_n 0, 1) := by decide +kernel
theorem dX0_init_52 : decode cX0_init 52 = .ok (.getfield 20, 3) := by decide +kernel
theorem dX0_init_55 : decode cX0_init 55 = .ok (.iload_n 1, 1) := by decide +kernel
theorem dX0_init_56 : decode cX0_init 56 = .ok (.new 18, 3) := by decide +kernel
theorem dX0_init_59 : decode cX0_init 59 = .ok (.dup, 1) := by decide +kernel
theorem dX0_init_60 : decode cX0_init 60 = .ok (.invokespecial 31, 3) := by decide +kernel
theorem dX0_init_63 : decode cX0_init 63 = .ok (.aastore, 1) := by decide +kernel
theorem dX0_init_64 : decode cX0_init 64 = .ok (.iinc 1 1, 3) := by decide +kernel
theorem dX0_init_67 : decode cX0_init 67 = .ok (.goto (-25), 3) := by decide +kernel
theorem dX0_init_70 : decode cX0_init 70 = .ok (.iconst 0, 1) := by decide +kernel
theorem dX0_init_71 : decode cX0_init 71 = .ok (.istore_n 1, 1) := by decide +kernel
theorem dX0_init_72 : decode cX0_init 72 = .ok (.iload_n 1, 1) := by decide +kernel
theorem dX0_init_73 : decode cX0_init 73 = .ok (.aload_n 0, 1) := by decide +kernel
theorem dX0_init_74 : decode cX0_init 74 = .ok (.getfield 24, 3) := by decide +kernel
theorem dX0_init_77 : decode cX0_init 77 = .ok (.arraylength, 1) := by decide +kernel
theorem dX0_init_78 : decode cX0_init 78 = .ok (.if_icmp .ge 28, 3) := by decide +kernel
theorem dX0_init_81 : decode cX0_init 81 = .ok (.iload_n 1, 1) := by decide +kernel
theorem dX0_init_82 : decode cX0_init 82 = .ok (.getstatic 32, 3) := by decide +kernel
theorem dX0_init_85 : decode cX0_init 85 = .ok (.arraylength, 1) := by decide +kernel
theorem dX0_init_86 : decode cX0_init 86 = .ok (.if_icmp .ge 20, 3) := by decide +kernel
theorem dX0_init_89 : decode cX0_init 89 = .ok (.aload_n 0, 1) := by decide +kernel
theorem dX0_init_90 : decode cX0_init 90 = .ok (.getfield 24, 3) := by decide +kernel
theorem dX0_init_93 : decode cX0_init 93 = .ok (.iload_n 1, 1) := by decide +kernel
theorem dX0_init_94 : decode cX0_init 94 = .ok (.getstatic 32, 3) := by decide +kernel
theorem dX0_init_97 : decode cX0_init 97 = .ok (.iload_n 1, 1) := by decide +kernel
theorem dX0_init_98 : decode cX0_init 98 = .ok (.iaload, 1) := by decide +kernel
theorem dX0_init_99 : decode cX0_init 99 = .ok (.iastore, 1) := by decide +kernel
theorem dX0_init_100 : decode cX0_init 100 = .ok (.iinc 1 1, 3) := by decide +kernel
theorem dX0_init_103 : decode cX0_init 103 = .ok (.goto (-31), 3) := by decide +kernel
theorem dX0_init_106 : decode cX0_init 106 = .ok (.return_, 1) := by decide +kernel
theorem dX0_setting_0 : decode cX0_setting 0 = .ok (.iload_n 1, 1) := by decide +kernel
theorem dX0_setting_1 : decode cX0_setting 1 = .ok (.ifCond .lt 21, 3) := by decide +kernel
theorem dX0_setting_4 : decode cX0_setting 4 = .ok (.iload_n 1, 1) := by decide +kernel
theorem dX0_setting_5 : decode cX0_setting 5 = .ok (.aload_n 0, 1) := by decide +kernel
theorem dX0_setting_6 : decode cX0_setting 6 = .ok (.getfield 24, 3) := by decide +kernel
theorem dX0_setting_9 : decode cX0_setting 9 = .ok (.arraylength, 1) := by decide +kernel
theorem dX0_setting_10 : decode cX0_setting 10 = .ok (.if_icmp .ge 12, 3) := by decide +kernel
theorem dX0_setting_13 : decode cX0_setting 13 = .ok (.aload_n 0, 1) := by decide +kernel
theorem dX0_setting_14 : decode cX0_setting 14 = .ok (.getfield 24, 3) := by decide +kernel
theorem dX0_setting_17 : decode cX0_setting 17 = .ok (.iload_n 1, 1) := by decide +kernel
theorem dX0_setting_18 : decode cX0_setting 18 = .ok (.iaload, 1) := by decide +kernel
theorem dX0_setting_19 : decode cX0_setting 19 = .ok (.goto 4, 3) := by decide +kernel
theorem dX0_setting_22 : decode cX0_setting 22 = .ok (.iconst 0, 1) := by decide +kernel
theorem dX0_setting_23 : decode cX0_setting 23 = .ok (.ireturn, 1) := by decide +kernel
theorem dX0_changeSetting_0 : decode cX0_changeSetting 0 = .ok (.iload_n 1, 1) := by decide +kernel
theorem dX0_changeSetting_1 : decode cX0_changeSetting 1 = .ok (.ifCond .lt 19, 3) := by decide +kernel
theorem dX0_changeSetting_4 : decode cX0_changeSetting 4 = .ok (.iload_n 1, 1) := by decide +kernel
theorem dX0_changeSetting_5 : decode cX0_changeSetting 5 = .ok (.aload_n 0, 1) := by decide +kernel
theorem dX0_changeSetting_6 : decode cX0_changeSetting 6 = .ok (.getfield 24, 3) := by decide +kernel
theorem dX0_changeSetting_9 : decode cX0_changeSetting 9 = .ok (.arraylength, 1) := by decide +kernel
theorem dX0_changeSetting_10 : decode cX0_changeSetting 10 = .ok (.if_icmp .ge 10, 3) := by decide +kernel
theorem dX0_changeSetting_13 : decode cX0_changeSetting 13 = .ok (.aload_n 0, 1) := by decide +kernel
theorem dX0_changeSetting_14 : decode cX0_changeSetting 14 = .ok (.getfield 24, 3) := by decide +kernel
theorem dX0_changeSetting_17 : decode cX0_changeSetting 17 = .ok (.iload_n 1, 1) := by decide +kernel
theorem dX0_changeSetting_18 : decode cX0_changeSetting 18 = .ok (.iload_n 2, 1) := by decide +kernel
theorem dX0_changeSetting_19 : decode cX0_changeSetting 19 = .ok (.iastore, 1) := by decide +kernel
theorem dX0_changeSetting_20 : decode cX0_changeSetting 20 = .ok (.return_, 1) := by decide +kernel
theorem dX0_find_0 : decode cX0_find 0 = .ok (.iload_n 1, 1) := by decide +kernel
theorem dX0_find_1 : decode cX0_find 1 = .ok (.ifCond .lt 12, 3) := by decide +kernel
theorem dX0_find_4 : decode cX0_find 4 = .ok (.iload_n 1, 1) := by decide +kernel
theorem dX0_find_5 : decode cX0_find 5 = .ok (.aload_n 0, 1) := by decide +kernel
theorem dX0_find_6 : decode cX0_find 6 = .ok (.getfield 20, 3) := by decide +kernel
theorem dX0_find_9 : decode cX0_find 9 = .ok (.arraylength, 1) := by decide +kernel
theorem dX0_find_10 : decode cX0_find 10 = .ok (.if_icmp .lt 5, 3) := by decide +kernel
theorem dX0_find_13 : decode cX0_find 13 = .ok (.aconst_null, 1) := by decide +kernel
theorem dX0_find_14 : decode cX0_find 14 = .ok (.areturn, 1) := by decide +kernel
theorem dX0_find_15 : decode cX0_find 15 = .ok (.aload_n 0, 1) := by decide +kernel
theorem dX0_find_16 : decode cX0_find 16 = .ok (.getfield 20, 3) := by decide +kernel
theorem dX0_find_19 : decode cX0_find 19 = .ok (.iload_n 1, 1) := by decide +kernel
theorem dX0_find_20 : decode cX0_find 20 = .ok (.aaload, 1) := by decide +kernel
theorem dX0_find_21 : decode cX0_find 21 = .ok (.astore_n 2, 1) := by decide +kernel
theorem dX0_find_22 : decode cX0_find 22 = .ok (.aload_n 2, 1) := by decide +kernel
theorem dX0_find_23 : decode cX0_find 23 = .ok (.ifnull 14, 3) := by decide +kernel
theorem dX0_find_26 : decode cX0_find 26 = .ok (.aload_n 2, 1) := by decide +kernel
theorem dX0_find_27 : decode cX0_find 27 = .ok (.getfield 35, 3) := by decide +kernel
theorem dX0_find_30 : decode cX0_find 30 = .ok (.ifCond .eq 7, 3) := by decide +kernel
theorem dX0_find_33 : decode cX0_find 33 = .ok (.aload_n 2, 1) := by decide +kernel
theorem dX0_find_34 : decode cX0_find 34 = .ok (.goto 4, 3) := by decide +kernel
theorem dX0_find_37 : decode cX0_find 37 = .ok (.aconst_null, 1) := by decide +kernel
theorem dX0_find_38 : decode cX0_find 38 = .ok (.areturn, 1) := by decide +kernel
theorem dX0_allows_0 : decode cX0_allows 0 = .ok (.iload_n 1, 1) := by decide +kernel
theorem dX0_allows_1 : decode cX0_allows 1 = .ok (.iconst 4, 1) := by decide +kernel
theorem dX0_allows_2 : decode cX0_allows 2 = .ok (.if_icmp .ne 30, 3) := by decide +kernel
theorem dX0_allows_5 : decode cX0_allows 5 = .ok (.iload_n 2, 1) := by decide +kernel
theorem dX0_allows_6 : decode cX0_allows 6 = .ok (.iload_n 3, 1) := by decide +kernel
theorem dX0_allows_7 : decode cX0_allows 7 = .ok (.if_icmp .eq 23, 3) := by decide +kernel
theorem dX0_allows_10 : decode cX0_allows 10 = .ok (.aload_n 0, 1) := by decide +kernel
theorem dX0_allows_11 : decode cX0_allows 11 = .ok (.iload_n 2, 1) := by decide +kernel
theorem dX0_allows_12 : decode cX0_allows 12 = .ok (.invokevirtual 39, 3) := by decide +kernel
theorem dX0_allows_15 : decode cX0_allows 15 = .ok (.ifnull 15, 3) := by decide +kernel
theorem dX0_allows_18 : decode cX0_allows 18 = .ok (.aload_n 0, 1) := by decide +kernel
theorem dX0_allows_19 : decode cX0_allows 19 = .ok (.iload_n 3, 1) := by decide +kernel
theorem dX0_allows_20 : decode cX0_allows 20 = .ok (.invokevirtual 39, 3) := by decide +kernel
theorem dX0_allows_23 : decode cX0_allows 23 = .ok (.ifnull 7, 3) := by decide +kernel
theorem dX0_allows_26 : decode cX0_allows 26 = .ok (.iconst 1, 1) := by decide +kernel
theorem dX0_allows_27 : decode cX0_allows 27 = .ok (.goto 4, 3) := by decide +kernel
theorem dX0_allows_30 : decode cX0_allows 30 = .ok (.iconst 0, 1) := by decide +kernel
theorem dX0_allows_31 : decode cX0_allows 31 = .ok (.ireturn, 1) := by decide +kernel
theorem dX0_allows_32 : decode cX0_allows 32 = .ok (.iload_n 2, 1) := by decide +kernel
theorem dX0_allows_33 : decode cX0_allows 33 = .ok (.iload_n 3, 1) := by decide +kernel
theorem dX0_allows_34 : decode cX0_allows 34 = .ok (.if_icmp .gt 13, 3) := by decide +kernel
theorem dX0_allows_37 : decode cX0_allows 37 = .ok (.iload_n 3, 1) := by decide +kernel
theorem dX0_allows_38 : decode cX0_allows 38 = .ok (.bipush 12, 2) := by decide +kernel
theorem dX0_allows_40 : decode cX0_allows 40 = .ok (.if_icmp .ge 7, 3) := by decide +kernel
theorem dX0_allows_43 : decode cX0_allows 43 = .ok (.iconst 1, 1) := by decide +kernel
theorem dX0_allows_44 : decode cX0_allows 44 = .ok (.goto 4, 3) := by decide +kernel
theorem dX0_allows_47 : decode cX0_allows 47 = .ok (.iconst 0, 1) := by decide +kernel
theorem dX0_allows_48 : decode cX0_allows 48 = .ok (.ireturn, 1) := by decide +kernel
theorem dX0_addView_0 : decode cX0_addView 0 = .ok (.aload_n 0, 1) := by decide +kernel
theorem dX0_addView_1 : decode cX0_addView 1 = .ok (.getfield 43, 3) := by decide +kernel
theorem dX0_addView_4 : decode cX0_addView 4 = .ok (.istore 5, 2) := by decide +kernel
theorem dX0_addView_6 : decode cX0_addView 6 = .ok (.iload 5, 2) := by decide +kernel
theorem dX0_addView_8 : decode cX0_addView 8 = .ok (.ifCond .lt 23, 3) := by decide +kernel
theorem dX0_addView_11 : decode cX0_addView 11 = .ok (.iload 5, 2) := by decide +kernel
theorem dX0_addView_13 : decode cX0_addView 13 = .ok (.aload_n 0, 1) := by decide +kernel
theorem dX0_addView_14 : decode cX0_addView 14 = .ok (.getfield 20, 3) := by decide +kernel
theorem dX0_addView_17 : decode cX0_addView 17 = .ok (.arraylength, 1) := by decide +kernel
theorem dX0_addView_18 : decode cX0_addView 18 = .ok (.if_icmp .ge 13, 3) := by decide +kernel
theorem dX0_addView_21 : decode cX0_addView 21 = .ok (.aload_n 0, 1) := by decide +kernel
theorem dX0_addView_22 : decode cX0_addView 22 = .ok (.getfield 20, 3) := by decide +kernel
theorem dX0_addView_25 : decode cX0_addView 25 = .ok (.iload 5, 2) := by decide +kernel
theorem dX0_addView_27 : decode cX0_addView 27 = .ok (.aaload, 1) := by decide +kernel
theorem dX0_addView_28 : decode cX0_addView 28 = .ok (.ifnonnull 6, 3) := by decide +kernel
theorem dX0_addView_31 : decode cX0_addView 31 = .ok (.ldc 47, 2) := by decide +kernel
theorem dX0_addView_33 : decode cX0_addView 33 = .ok (.ireturn, 1) := by decide +kernel
theorem dX0_addView_34 : decode cX0_addView 34 = .ok (.aload_n 0, 1) := by decide +kernel
theorem dX0_addView_35 : decode cX0_addView 35 = .ok (.getfield 20, 3) := by decide +kernel
theorem dX0_addView_38 : decode cX0_addView 38 = .ok (.iload 5, 2) := by decide +kernel
theorem dX0_addView_40 : decode cX0_addView 40 = .ok (.aaload, 1) := by decide +kernel
theorem dX0_addView_41 : decode cX0_addView 41 = .ok (.astore 6, 2) := by decide +kernel
theorem dX0_addView_43 : decode cX0_addView 43 = .ok (.aload 6, 2) := by decide +kernel
theorem dX0_addView_45 : decode cX0_addView 45 = .ok (.iload_n 1, 1) := by decide +kernel
theorem dX0_addView_46 : decode cX0_addView 46 = .ok (.iload_n 2, 1) := by decide +kernel
theorem dX0_addView_47 : decode cX0_addView 47 = .ok (.iload_n 3, 1) := by decide +kernel
theorem dX0_addView_48 : decode cX0_addView 48 = .ok (.iload 4, 2) := by decide +kernel
theorem dX0_addView_50 : decode cX0_addView 50 = .ok (.invokevirtual 48, 3) := by decide +kernel
theorem dX0_addView_53 : decode cX0_addView 53 = .ok (.iload_n 1, 1) := by decide +kernel
theorem dX0_addView_54 : decode cX0_addView 54 = .ok (.iconst 4, 1) := by decide +kernel
theorem dX0_addView_55 : decode cX0_addView 55 = .ok (.if_icmp .ne 23, 3) := by decide +kernel
theorem dX0_addView_58 : decode cX0_addView 58 = .ok (.aload_n 0, 1) := by decide +kernel
theorem dX0_addView_59 : decode cX0_addView 59 = .ok (.aload 6, 2) := by decide +kernel
theorem dX0_addView_61 : decode cX0_addView 61 = .ok (.aload_n 0, 1) := by decide +kernel
theorem dX0_addView_62 : decode cX0_addView 62 = .ok (.iload_n 3, 1) := by decide +kernel
theorem dX0_addView_63 : decode cX0_addView 63 = .ok (.invokevirtual 39, 3) := by decide +kernel
theorem dX0_addView_66 : decode cX0_addView 66 = .ok (.aload_n 0, 1) := by decide +kernel
theorem dX0_addView_67 : decode cX0_addView 67 = .ok (.iload 4, 2) := by decide +kernel
theorem dX0_addView_69 : decode cX0_addView 69 = .ok (.invokevirtual 39, 3) := by decide +kernel
theorem dX0_addView_72 : decode cX0_addView 72 = .ok (.invokevirtual 52, 3) := by decide +kernel
theorem dX0_addView_75 : decode cX0_addView 75 = .ok (.goto 18, 3) := by decide +kernel
theorem dX0_addView_78 : decode cX0_addView 78 = .ok (.aload 6, 2) := by decide +kernel
theorem dX0_addView_80 : decode cX0_addView 80 = .ok (.aload 6, 2) := by decide +kernel
theorem dX0_addView_82 : decode cX0_addView 82 = .ok (.invokevirtual 56, 3) := by decide +kernel
theorem dX0_addView_85 : decode cX0_addView 85 = .ok (.aload 6, 2) := by decide +kernel
theorem dX0_addView_87 : decode cX0_addView 87 = .ok (.invokevirtual 60, 3) := by decide +kernel
theorem dX0_addView_90 : decode cX0_addView 90 = .ok (.invokevirtual 63, 3) := by decide +kernel
theorem dX0_addView_93 : decode cX0_addView 93 = .ok (.aload 6, 2) := by decide +kernel
theorem dX0_addView_95 : decode cX0_addView 95 = .ok (.aload_n 0, 1) := by decide +kernel
theorem dX0_addView_96 : decode cX0_addView 96 = .ok (.getfield 12, 3) := by decide +kernel
theorem dX0_addView_99 : decode cX0_addView 99 = .ok (.getfield 67, 3) := by decide +kernel
theorem dX0_addView_102 : decode cX0_addView 102 = .ok (.invokevirtual 70, 3) := by decide +kernel
theorem dX0_addView_105 : decode cX0_addView 105 = .ok (.aload_n 0, 1) := by decide +kernel
theorem dX0_addView_106 : decode cX0_addView 106 = .ok (.iload 5, 2) := by decide +kernel
theorem dX0_addView_108 : decode cX0_addView 108 = .ok (.iconst 1, 1) := by decide +kernel
theorem dX0_addView_109 : decode cX0_addView 109 = .ok (.iadd, 1) := by decide +kernel
theorem dX0_addView_110 : decode cX0_addView 110 = .ok (.putfield 43, 3) := by decide +kernel
theorem dX0_addView_113 : decode cX0_addView 113 = .ok (.iload 5, 2) := by decide +kernel
theorem dX0_addView_115 : decode cX0_addView 115 = .ok (.ireturn, 1) := by decide +kernel
theorem dX0_noteParts_0 : decode cX0_noteParts 0 = .ok (.aload_n 2, 1) := by decide +kernel
theorem dX0_noteParts_1 : decode cX0_noteParts 1 = .ok (.ifnull 29, 3) := by decide +kernel
theorem dX0_noteParts_4 : decode cX0_noteParts 4 = .ok (.aload_n 3, 1) := by decide +kernel
theorem dX0_noteParts_5 : decode cX0_noteParts 5 = .ok (.ifnull 25, 3) := by decide +kernel
theorem dX0_noteParts_8 : decode cX0_noteParts 8 = .ok (.aload_n 1, 1) := by decide +kernel
theorem dX0_noteParts_9 : decode cX0_noteParts 9 = .ok (.aload_n 2, 1) := by decide +kernel
theorem dX0_noteParts_10 : decode cX0_noteParts 10 = .ok (.getfield 74, 3) := by decide +kernel
theorem dX0_noteParts_13 : decode cX0_noteParts 13 = .ok (.aload_n 3, 1) := by decide +kernel
theorem dX0_noteParts_14 : decode cX0_noteParts 14 = .ok (.getfield 74, 3) := by decide +kernel
theorem dX0_noteParts_17 : decode cX0_noteParts 17 = .ok (.ior, 1) := by decide +kernel
theorem dX0_noteParts_18 : decode cX0_noteParts 18 = .ok (.aload_n 2, 1) := by decide +kernel
theorem dX0_noteParts_19 : decode cX0_noteParts 19 = .ok (.getfield 77, 3) := by decide +kernel
theorem dX0_noteParts_22 : decode cX0_noteParts 22 = .ok (.aload_n 3, 1) := by decide +kernel
theorem dX0_noteParts_23 : decode cX0_noteParts 23 = .ok (.getfield 77, 3) := by decide +kernel
theorem dX0_noteParts_26 : decode cX0_noteParts 26 = .ok (.iadd, 1) := by decide +kernel
theorem dX0_noteParts_27 : decode cX0_noteParts 27 = .ok (.invokevirtual 63, 3) := by decide +kernel
theorem dX0_noteParts_30 : decode cX0_noteParts 30 = .ok (.return_, 1) := by decide +kernel
theorem dX0_isPart_0 : decode cX0_isPart 0 = .ok (.iconst 0, 1) := by decide +kernel
theorem dX0_isPart_1 : decode cX0_isPart 1 = .ok (.istore_n 2, 1) := by decide +kernel
theorem dX0_isPart_2 : decode cX0_isPart 2 = .ok (.iload_n 2, 1) := by decide +kernel
theorem dX0_isPart_3 : decode cX0_isPart 3 = .ok (.bipush 8, 2) := by decide +kernel
theorem dX0_isPart_5 : decode cX0_isPart 5 = .ok (.if_icmp .ge 29, 3) := by decide +kernel
theorem dX0_isPart_8 : decode cX0_isPart 8 = .ok (.aload_n 0, 1) := by decide +kernel
theorem dX0_isPart_9 : decode cX0_isPart 9 = .ok (.iload_n 2, 1) := by decide +kernel
theorem dX0_isPart_10 : decode cX0_isPart 10 = .ok (.invokevirtual 39, 3) := by decide +kernel
theorem dX0_isPart_13 : decode cX0_isPart 13 = .ok (.astore_n 3, 1) := by decide +kernel
theorem dX0_isPart_14 : decode cX0_isPart 14 = .ok (.aload_n 3, 1) := by decide +kernel
theorem dX0_isPart_15 : decode cX0_isPart 15 = .ok (.ifnull 13, 3) := by decide +kernel
theorem dX0_isPart_18 : decode cX0_isPart 18 = .ok (.aload_n 3, 1) := by decide +kernel
theorem dX0_isPart_19 : decode cX0_isPart 19 = .ok (.iload_n 1, 1) := by decide +kernel
theorem dX0_isPart_20 : decode cX0_isPart 20 = .ok (.invokevirtual 80, 3) := by decide +kernel
theorem dX0_isPart_23 : decode cX0_isPart 23 = .ok (.ifCond .eq 5, 3) := by decide +kernel
theorem dX0_isPart_26 : decode cX0_isPart 26 = .ok (.iconst 1, 1) := by decide +kernel
theorem dX0_isPart_27 : decode cX0_isPart 27 = .ok (.ireturn, 1) := by decide +kernel
theorem dX0_isPart_28 : decode cX0_isPart 28 = .ok (.iinc 2 1, 3) := by decide +kernel
theorem dX0_isPart_31 : decode cX0_isPart 31 = .ok (.goto (-29), 3) := by decide +kernel
theorem dX0_isPart_34 : decode cX0_isPart 34 = .ok (.iconst 0, 1) := by decide +kernel
theorem dX0_isPart_35 : decode cX0_isPart 35 = .ok (.ireturn, 1) := by decide +kernel
theorem dX0_setOf_0 : decode cX0_setOf 0 = .ok (.iconst 0, 1) := by decide +kernel
theorem dX0_setOf_1 : decode cX0_setOf 1 = .ok (.istore_n 2, 1) := by decide +kernel
theorem dX0_setOf_2 : decode cX0_setOf 2 = .ok (.iconst 0, 1) := by decide +kernel
theorem dX0_setOf_3 : decode cX0_setOf 3 = .ok (.istore_n 3, 1) := by decide +kernel
theorem dX0_setOf_4 : decode cX0_setOf 4 = .ok (.iload_n 3, 1) := by decide +kernel
theorem dX0_setOf_5 : decode cX0_setOf 5 = .ok (.bipush 8, 2) := by decide +kernel
theorem dX0_setOf_7 : decode cX0_setOf 7 = .ok (.if_icmp .ge 37, 3) := by decide +kernel
theorem dX0_setOf_10 : decode cX0_setOf 10 = .ok (.aload_n 0, 1) := by decide +kernel
theorem dX0_setOf_11 : decode cX0_setOf 11 = .ok (.iload_n 3, 1) := by decide +kernel
theorem dX0_setOf_12 : decode cX0_setOf 12 = .ok (.invokevirtual 39, 3) := by decide +kernel
theorem dX0_setOf_15 : decode cX0_setOf 15 = .ok (.astore 4, 2) := by decide +kernel
theorem dX0_setOf_17 : decode cX0_setOf 17 = .ok (.aload 4, 2) := by decide +kernel
theorem dX0_setOf_19 : decode cX0_setOf 19 = .ok (.ifnull 19, 3) := by decide +kernel
theorem dX0_setOf_22 : decode cX0_setOf 22 = .ok (.aload_n 0, 1) := by decide +kernel
theorem dX0_setOf_23 : decode cX0_setOf 23 = .ok (.aload 4, 2) := by decide +kernel
theorem dX0_setOf_25 : decode cX0_setOf 25 = .ok (.iload_n 1, 1) := by decide +kernel
theorem dX0_setOf_26 : decode cX0_setOf 26 = .ok (.invokevirtual 84, 3) := by decide +kernel
theorem dX0_setOf_29 : decode cX0_setOf 29 = .ok (.ifCond .eq 9, 3) := by decide +kernel
theorem dX0_setOf_32 : decode cX0_setOf 32 = .ok (.iload_n 2, 1) := by decide +kernel
theorem dX0_setOf_33 : decode cX0_setOf 33 = .ok (.iconst 1, 1) := by decide +kernel
theorem dX0_setOf_34 : decode cX0_setOf 34 = .ok (.iload_n 3, 1) := by decide +kernel
theorem dX0_setOf_35 : decode cX0_setOf 35 = .ok (.ishl, 1) := by decide +kernel
theorem dX0_setOf_36 : decode cX0_setOf 36 = .ok (.ior, 1) := by decide +kernel
theorem dX0_setOf_37 : decode cX0_setOf 37 = .ok (.istore_n 2, 1) := by decide +kernel
theorem dX0_setOf_38 : decode cX0_setOf 38 = .ok (.iinc 3 1, 3) := by decide +kernel
theorem dX0_setOf_41 : decode cX0_setOf 41 = .ok (.goto (-37), 3) := by decide +kernel
theorem dX0_setOf_44 : decode cX0_setOf 44 = .ok (.iload_n 2, 1) := by decide +kernel
theorem dX0_setOf_45 : decode cX0_setOf 45 = .ok (.ireturn, 1) := by decide +kernel
theorem dX0_belongs_0 : decode cX0_belongs 0 = .ok (.iload_n 2, 1) := by decide +kernel
theorem dX0_belongs_1 : decode cX0_belongs 1 = .ok (.tableswitch 84 1 4 #[31, 36, 49, 63], 31) := by decide +kernel
theorem dX0_belongs_32 : decode cX0_belongs 32 = .ok (.aload_n 1, 1) := by decide +kernel
theorem dX0_belongs_33 : decode cX0_belongs 33 = .ok (.getfield 88, 3) := by decide +kernel
theorem dX0_belongs_36 : decode cX0_belongs 36 = .ok (.ireturn, 1) := by decide +kernel
theorem dX0_belongs_37 : decode cX0_belongs 37 = .ok (.aload_n 1, 1) := by decide +kernel
theorem dX0_belongs_38 : decode cX0_belongs 38 = .ok (.getfield 88, 3) := by decide +kernel
theorem dX0_belongs_41 : decode cX0_belongs 41 = .ok (.ifCond .ne 7, 3) := by decide +kernel
theorem dX0_belongs_44 : decode cX0_belongs 44 = .ok (.iconst 1, 1) := by decide +kernel
theorem dX0_belongs_45 : decode cX0_belongs 45 = .ok (.goto 4, 3) := by decide +kernel
theorem dX0_belongs_48 : decode cX0_belongs 48 = .ok (.iconst 0, 1) := by decide +kernel
theorem dX0_belongs_49 : decode cX0_belongs 49 = .ok (.ireturn, 1) := by decide +kernel
theorem dX0_belongs_50 : decode cX0_belongs 50 = .ok (.aload_n 0, 1) := by decide +kernel
theorem dX0_belongs_51 : decode cX0_belongs 51 = .ok (.aload_n 1, 1) := by decide +kernel
theorem dX0_belongs_52 : decode cX0_belongs 52 = .ok (.invokevirtual 91, 3) := by decide +kernel
theorem dX0_belongs_55 : decode cX0_belongs 55 = .ok (.ifCond .le 7, 3) := by decide +kernel
theorem dX0_belongs_58 : decode cX0_belongs 58 = .ok (.iconst 1, 1) := by decide +kernel
theorem dX0_belongs_59 : decode cX0_belongs 59 = .ok (.goto 4, 3) := by decide +kernel
theorem dX0_belongs_62 : decode cX0_belongs 62 = .ok (.iconst 0, 1) := by decide +kernel
theorem dX0_belongs_63 : decode cX0_belongs 63 = .ok (.ireturn, 1) := by decide +kernel
theorem dX0_belongs_64 : decode cX0_belongs 64 = .ok (.aload_n 1, 1) := by decide +kernel
theorem dX0_belongs_65 : decode cX0_belongs 65 = .ok (.getfield 88, 3) := by decide +kernel
theorem dX0_belongs_68 : decode cX0_belongs 68 = .ok (.ifCond .ne 15, 3) := by decide +kernel
theorem dX0_belongs_71 : decode cX0_belongs 71 = .ok (.aload_n 0, 1) := by decide +kernel
theorem dX0_belongs_72 : decode cX0_belongs 72 = .ok (.aload_n 1, 1) := by decide +kernel
theorem dX0_belongs_73 : decode cX0_belongs 73 = .ok (.invokevirtual 95, 3) := by decide +kernel
theorem dX0_belongs_76 : decode cX0_belongs 76 = .ok (.ifCond .ne 7, 3) := by decide +kernel
theorem dX0_belongs_79 : decode cX0_belongs 79 = .ok (.iconst 1, 1) := by decide +kernel
theorem dX0_belongs_80 : decode cX0_belongs 80 = .ok (.goto 4, 3) := by decide +kernel
theorem dX0_belongs_83 : decode cX0_belongs 83 = .ok (.iconst 0, 1) := by decide +kernel
theorem dX0_belongs_84 : decode cX0_belongs 84 = .ok (.ireturn, 1) := by decide +kernel
theorem dX0_belongs_85 : decode cX0_belongs 85 = .ok (.iconst 1, 1) := by decide +kernel
theorem dX0_belongs_86 : decode cX0_belongs 86 = .ok (.ireturn, 1) := by decide +kernel
theorem dX0_concernedBy_0 : decode cX0_concernedBy 0 = .ok (.iconst 0, 1) := by decide +kernel
theorem dX0_concernedBy_1 : decode cX0_concernedBy 1 = .ok (.istore_n 2, 1) := by decide +kernel
theorem dX0_concernedBy_2 : decode cX0_concernedBy 2 = .ok (.iconst 0, 1) := by decide +kernel
theorem dX0_concernedBy_3 : decode cX0_concernedBy 3 = .ok (.istore_n 3, 1) := by decide +kernel
theorem dX0_concernedBy_4 : decode cX0_concernedBy 4 = .ok (.iload_n 3, 1) := by decide +kernel
theorem dX0_concernedBy_5 : decode cX0_concernedBy 5 = .ok (.bipush 8, 2) := by decide +kernel
theorem dX0_concernedBy_7 : decode cX0_concernedBy 7 = .ok (.if_icmp .ge 36, 3) := by decide +kernel
theorem dX0_concernedBy_10 : decode cX0_concernedBy 10 = .ok (.aload_n 0, 1) := by decide +kernel
theorem dX0_concernedBy_11 : decode cX0_concernedBy 11 = .ok (.iload_n 3, 1) := by decide +kernel
theorem dX0_concernedBy_12 : decode cX0_concernedBy 12 = .ok (.invokevirtual 39, 3) := by decide +kernel
theorem dX0_concernedBy_15 : decode cX0_concernedBy 15 = .ok (.astore 4, 2) := by decide +kernel
theorem dX0_concernedBy_17 : decode cX0_concernedBy 17 = .ok (.aload 4, 2) := by decide +kernel
theorem dX0_concernedBy_19 : decode cX0_concernedBy 19 = .ok (.ifnull 18, 3) := by decide +kernel
theorem dX0_concernedBy_22 : decode cX0_concernedBy 22 = .ok (.aload 4, 2) := by decide +kernel
theorem dX0_concernedBy_24 : decode cX0_concernedBy 24 = .ok (.iload_n 1, 1) := by decide +kernel
theorem dX0_concernedBy_25 : decode cX0_concernedBy 25 = .ok (.invokevirtual 98, 3) := by decide +kernel
theorem dX0_concernedBy_28 : decode cX0_concernedBy 28 = .ok (.ifCond .eq 9, 3) := by decide +kernel
theorem dX0_concernedBy_31 : decode cX0_concernedBy 31 = .ok (.iload_n 2, 1) := by decide +kernel
theorem dX0_concernedBy_32 : decode cX0_concernedBy 32 = .ok (.iconst 1, 1) := by decide +kernel
theorem dX0_concernedBy_33 : decode cX0_concernedBy 33 = .ok (.iload_n 3, 1) := by decide +kernel
theorem dX0_concernedBy_34 : decode cX0_concernedBy 34 = .ok (.ishl, 1) := by decide +kernel
theorem dX0_concernedBy_35 : decode cX0_concernedBy 35 = .ok (.ior, 1) := by decide +kernel
theorem dX0_concernedBy_36 : decode cX0_concernedBy 36 = .ok (.istore_n 2, 1) := by decide +kernel
theorem dX0_concernedBy_37 : decode cX0_concernedBy 37 = .ok (.iinc 3 1, 3) := by decide +kernel
theorem dX0_concernedBy_40 : decode cX0_concernedBy 40 = .ok (.goto (-36), 3) := by decide +kernel
theorem dX0_concernedBy_43 : decode cX0_concernedBy 43 = .ok (.iload_n 2, 1) := by decide +kernel
theorem dX0_concernedBy_44 : decode cX0_concernedBy 44 = .ok (.ireturn, 1) := by decide +kernel
theorem dX0_arrears_0 : decode cX0_arrears 0 = .ok (.aload_n 1, 1) := by decide +kernel
theorem dX0_arrears_1 : decode cX0_arrears 1 = .ok (.getfield 88, 3) := by decide +kernel
theorem dX0_arrears_4 : decode cX0_arrears 4 = .ok (.ifCond .eq 5, 3) := by decide +kernel
theorem dX0_arrears_7 : decode cX0_arrears 7 = .ok (.iconst 0, 1) := by decide +kernel
theorem dX0_arrears_8 : decode cX0_arrears 8 = .ok (.ireturn, 1) := by decide +kernel
theorem dX0_arrears_9 : decode cX0_arrears 9 = .ok (.iconst 0, 1) := by decide +kernel
theorem dX0_arrears_10 : decode cX0_arrears 10 = .ok (.istore_n 2, 1) := by decide +kernel
theorem dX0_arrears_11 : decode cX0_arrears 11 = .ok (.aload_n 1, 1) := by decide +kernel
theorem dX0_arrears_12 : decode cX0_arrears 12 = .ok (.getfield 101, 3) := by decide +kernel
theorem dX0_arrears_15 : decode cX0_arrears 15 = .ok (.istore_n 3, 1) := by decide +kernel
theorem dX0_arrears_16 : decode cX0_arrears 16 = .ok (.iload_n 3, 1) := by decide +kernel
theorem dX0_arrears_17 : decode cX0_arrears 17 = .ok (.aload_n 0, 1) := by decide +kernel
theorem dX0_arrears_18 : decode cX0_arrears 18 = .ok (.getfield 12, 3) := by decide +kernel
theorem dX0_arrears_21 : decode cX0_arrears 21 = .ok (.getfield 67, 3) := by decide +kernel
theorem dX0_arrears_24 : decode cX0_arrears 24 = .ok (.if_icmp .ge 27, 3) := by decide +kernel
theorem dX0_arrears_27 : decode cX0_arrears 27 = .ok (.aload_n 1, 1) := by decide +kernel
theorem dX0_arrears_28 : decode cX0_arrears 28 = .ok (.aload_n 0, 1) := by decide +kernel
theorem dX0_arrears_29 : decode cX0_arrears 29 = .ok (.getfield 12, 3) := by decide +kernel
theorem dX0_arrears_32 : decode cX0_arrears 32 = .ok (.iload_n 3, 1) := by decide +kernel
theorem dX0_arrears_33 : decode cX0_arrears 33 = .ok (.invokevirtual 104, 3) := by decide +kernel
theorem dX0_arrears_36 : decode cX0_arrears 36 = .ok (.invokevirtual 98, 3) := by decide +kernel
theorem dX0_arrears_39 : decode cX0_arrears 39 = .ok (.ifCond .eq 6, 3) := by decide +kernel
theorem dX0_arrears_42 : decode cX0_arrears 42 = .ok (.iinc 2 1, 3) := by decide +kernel
theorem dX0_arrears_45 : decode cX0_arrears 45 = .ok (.iinc 3 1, 3) := by decide +kernel
theorem dX0_arrears_48 : decode cX0_arrears 48 = .ok (.goto (-32), 3) := by decide +kernel
theorem dX0_arrears_51 : decode cX0_arrears 51 = .ok (.iload_n 2, 1) := by decide +kernel
theorem dX0_arrears_52 : decode cX0_arrears 52 = .ok (.ireturn, 1) := by decide +kernel
theorem dX0_priceOfArrear_0 : decode cX0_priceOfArrear 0 = .ok (.aload_n 1, 1) := by decide +kernel
theorem dX0_priceOfArrear_1 : decode cX0_priceOfArrear 1 = .ok (.invokevirtual 108, 3) := by decide +kernel
theorem dX0_priceOfArrear_4 : decode cX0_priceOfArrear 4 = .ok (.ifCond .eq 11, 3) := by decide +kernel
theorem dX0_priceOfArrear_7 : decode cX0_priceOfArrear 7 = .ok (.aload_n 0, 1) := by decide +kernel
theorem dX0_priceOfArrear_8 : decode cX0_priceOfArrear 8 = .ok (.iconst 1, 1) := by decide +kernel
theorem dX0_priceOfArrear_9 : decode cX0_priceOfArrear 9 = .ok (.invokevirtual 112, 3) := by decide +kernel
theorem dX0_priceOfArrear_12 : decode cX0_priceOfArrear 12 = .ok (.goto 10, 3) := by decide +kernel
theorem dX0_priceOfArrear_15 : decode cX0_priceOfArrear 15 = .ok (.iconst 2, 1) := by decide +kernel
theorem dX0_priceOfArrear_16 : decode cX0_priceOfArrear 16 = .ok (.aload_n 0, 1) := by decide +kernel
theorem dX0_priceOfArrear_17 : decode cX0_priceOfArrear 17 = .ok (.iconst 1, 1) := by decide +kernel
theorem dX0_priceOfArrear_18 : decode cX0_priceOfArrear 18 = .ok (.invokevirtual 112, 3) := by decide +kernel
theorem dX0_priceOfArrear_21 : decode cX0_priceOfArrear 21 = .ok (.imul, 1) := by decide +kernel
theorem dX0_priceOfArrear_22 : decode cX0_priceOfArrear 22 = .ok (.ireturn, 1) := by decide +kernel
theorem dX0_need_0 : decode cX0_need 0 = .ok (.aload_n 1, 1) := by decide +kernel
theorem dX0_need_1 : decode cX0_need 1 = .ok (.getfield 115, 3) := by decide +kernel
theorem dX0_need_4 : decode cX0_need 4 = .ok (.aload_n 0, 1) := by decide +kernel
theorem dX0_need_5 : decode cX0_need 5 = .ok (.aload_n 1, 1) := by decide +kernel
theorem dX0_need_6 : decode cX0_need 6 = .ok (.invokevirtual 91, 3) := by decide +kernel
theorem dX0_need_9 : decode cX0_need 9 = .ok (.aload_n 0, 1) := by decide +kernel
theorem dX0_need_10 : decode cX0_need 10 = .ok (.aload_n 1, 1) := by decide +kernel
theorem dX0_need_11 : decode cX0_need 11 = .ok (.invokevirtual 118, 3) := by decide +kernel
theorem dX0_need_14 : decode cX0_need 14 = .ok (.imul, 1) := by decide +kernel
theorem dX0_need_15 : decode cX0_need 15 = .ok (.iadd, 1) := by decide +kernel
theorem dX0_need_16 : decode cX0_need 16 = .ok (.ireturn, 1) := by decide +kernel
theorem dX0_interest_0 : decode cX0_interest 0 = .ok (.aload_n 0, 1) := by decide +kernel
theorem dX0_interest_1 : decode cX0_interest 1 = .ok (.iconst 0, 1) := by decide +kernel
theorem dX0_interest_2 : decode cX0_interest 2 = .ok (.invokevirtual 112, 3) := by decide +kernel
theorem dX0_interest_5 : decode cX0_interest 5 = .ok (.aload_n 0, 1) := by decide +kernel
theorem dX0_interest_6 : decode cX0_interest 6 = .ok (.aload_n 1, 1) := by decide +kernel
theorem dX0_interest_7 : decode cX0_interest 7 = .ok (.invokevirtual 91, 3) := by decide +kernel
theorem dX0_interest_10 : decode cX0_interest 10 = .ok (.imul, 1) := by decide +kernel
theorem dX0_interest_11 : decode cX0_interest 11 = .ok (.ireturn, 1) := by decide +kernel
theorem dX0_foundingCost_0 : decode cX0_foundingCost 0 = .ok (.iconst 3, 1) := by decide +kernel
theorem dX0_foundingCost_1 : decode cX0_foundingCost 1 = .ok (.aload_n 0, 1) := by decide +kernel
theorem dX0_foundingCost_2 : decode cX0_foundingCost 2 = .ok (.iconst 1, 1) := by decide +kernel
theorem dX0_foundingCost_3 : decode cX0_foundingCost 3 = .ok (.invokevirtual 112, 3) := by decide +kernel
theorem dX0_foundingCost_6 : decode cX0_foundingCost 6 = .ok (.imul, 1) := by decide +kernel
theorem dX0_foundingCost_7 : decode cX0_foundingCost 7 = .ok (.aload_n 1, 1) := by decide +kernel
theorem dX0_foundingCost_8 : decode cX0_foundingCost 8 = .ok (.getfield 77, 3) := by decide +kernel
theorem dX0_foundingCost_11 : decode cX0_foundingCost 11 = .ok (.imul, 1) := by decide +kernel
theorem dX0_foundingCost_12 : decode cX0_foundingCost 12 = .ok (.ireturn, 1) := by decide +kernel
theorem dX0_allDebts_0 : decode cX0_allDebts 0 = .ok (.iconst 0, 1) := by decide +kernel
theorem dX0_allDebts_1 : decode cX0_allDebts 1 = .ok (.istore_n 1, 1) := by decide +kernel
theorem dX0_allDebts_2 : decode cX0_allDebts 2 = .ok (.iconst 0, 1) := by decide +kernel
theorem dX0_allDebts_3 : decode cX0_allDebts 3 = .ok (.istore_n 2, 1) := by decide +kernel
theorem dX0_allDebts_4 : decode cX0_allDebts 4 = .ok (.iload_n 2, 1) := by decide +kernel
theorem dX0_allDebts_5 : decode cX0_allDebts 5 = .ok (.bipush 8, 2) := by decide +kernel
theorem dX0_allDebts_7 : decode cX0_allDebts 7 = .ok (.if_icmp .ge 26, 3) := by decide +kernel
theorem dX0_allDebts_10 : decode cX0_allDebts 10 = .ok (.aload_n 0, 1) := by decide +kernel
theorem dX0_allDebts_11 : decode cX0_allDebts 11 = .ok (.iload_n 2, 1) := by decide +kernel
theorem dX0_allDebts_12 : decode cX0_allDebts 12 = .ok (.invokevirtual 39, 3) := by decide +kernel
theorem dX0_allDebts_15 : decode cX0_allDebts 15 = .ok (.astore_n 3, 1) := by decide +kernel
theorem dX0_allDebts_16 : decode cX0_allDebts 16 = .ok (.aload_n 3, 1) := by decide +kernel
theorem dX0_allDebts_17 : decode cX0_allDebts 17 = .ok (.ifnull 10, 3) := by decide +kernel
theorem dX0_allDebts_20 : decode cX0_allDebts 20 = .ok (.iload_n 1, 1) := by decide +kernel
theorem dX0_allDebts_21 : decode cX0_allDebts 21 = .ok (.aload_n 3, 1) := by decide +kernel
theorem dX0_allDebts_22 : decode cX0_allDebts 22 = .ok (.getfield 115, 3) := by decide +kernel
theorem dX0_allDebts_25 : decode cX0_allDebts 25 = .ok (.iadd, 1) := by decide +kernel
theorem dX0_allDebts_26 : decode cX0_allDebts 26 = .ok (.istore_n 1, 1) := by decide +kernel
theorem dX0_allDebts_27 : decode cX0_allDebts 27 = .ok (.iinc 2 1, 3) := by decide +kernel
theorem dX0_allDebts_30 : decode cX0_allDebts 30 = .ok (.goto (-26), 3) := by decide +kernel
theorem dX0_allDebts_33 : decode cX0_allDebts 33 = .ok (.iload_n 1, 1) := by decide +kernel
theorem dX0_allDebts_34 : decode cX0_allDebts 34 = .ok (.ireturn, 1) := by decide +kernel
theorem dX0_allNeeds_0 : decode cX0_allNeeds 0 = .ok (.iconst 0, 1) := by decide +kernel
theorem dX0_allNeeds_1 : decode cX0_allNeeds 1 = .ok (.istore_n 1, 1) := by decide +kernel
theorem dX0_allNeeds_2 : decode cX0_allNeeds 2 = .ok (.iconst 0, 1) := by decide +kernel
theorem dX0_allNeeds_3 : decode cX0_allNeeds 3 = .ok (.istore_n 2, 1) := by decide +kernel
theorem dX0_allNeeds_4 : decode cX0_allNeeds 4 = .ok (.iload_n 2, 1) := by decide +kernel
theorem dX0_allNeeds_5 : decode cX0_allNeeds 5 = .ok (.bipush 8, 2) := by decide +kernel
theorem dX0_allNeeds_7 : decode cX0_allNeeds 7 = .ok (.if_icmp .ge 27, 3) := by decide +kernel
theorem dX0_allNeeds_10 : decode cX0_allNeeds 10 = .ok (.aload_n 0, 1) := by decide +kernel
theorem dX0_allNeeds_11 : decode cX0_allNeeds 11 = .ok (.iload_n 2, 1) := by decide +kernel
theorem dX0_allNeeds_12 : decode cX0_allNeeds 12 = .ok (.invokevirtual 39, 3) := by decide +kernel
theorem dX0_allNeeds_15 : decode cX0_allNeeds 15 = .ok (.astore_n 3, 1) := by decide +kernel
theorem dX0_allNeeds_16 : decode cX0_allNeeds 16 = .ok (.aload_n 3, 1) := by decide +kernel
theorem dX0_allNeeds_17 : decode cX0_allNeeds 17 = .ok (.ifnull 11, 3) := by decide +kernel
theorem dX0_allNeeds_20 : decode cX0_allNeeds 20 = .ok (.iload_n 1, 1) := by decide +kernel
theorem dX0_allNeeds_21 : decode cX0_allNeeds 21 = .ok (.aload_n 0, 1) := by decide +kernel
theorem dX0_allNeeds_22 : decode cX0_allNeeds 22 = .ok (.aload_n 3, 1) := by decide +kernel
theorem dX0_allNeeds_23 : decode cX0_allNeeds 23 = .ok (.invokevirtual 95, 3) := by decide +kernel
theorem dX0_allNeeds_26 : decode cX0_allNeeds 26 = .ok (.iadd, 1) := by decide +kernel
theorem dX0_allNeeds_27 : decode cX0_allNeeds 27 = .ok (.istore_n 1, 1) := by decide +kernel
theorem dX0_allNeeds_28 : decode cX0_allNeeds 28 = .ok (.iinc 2 1, 3) := by decide +kernel
theorem dX0_allNeeds_31 : decode cX0_allNeeds 31 = .ok (.goto (-27), 3) := by decide +kernel
theorem dX0_allNeeds_34 : decode cX0_allNeeds 34 = .ok (.iload_n 1, 1) := by decide +kernel
theorem dX0_allNeeds_35 : decode cX0_allNeeds 35 = .ok (.ireturn, 1) := by decide +kernel
theorem dX0_receive_0 : decode cX0_receive 0 = .ok (.aload_n 0, 1) := by decide +kernel
theorem dX0_receive_1 : decode cX0_receive 1 = .ok (.dup, 1) := by decide +kernel
theorem dX0_receive_2 : decode cX0_receive 2 = .ok (.getfield 121, 3) := by decide +kernel
theorem dX0_receive_5 : decode cX0_receive 5 = .ok (.iload_n 1, 1) := by decide +kernel
theorem dX0_receive_6 : decode cX0_receive 6 = .ok (.iadd, 1) := by decide +kernel
theorem dX0_receive_7 : decode cX0_receive 7 = .ok (.putfield 121, 3) := by decide +kernel
theorem dX0_receive_10 : decode cX0_receive 10 = .ok (.aload_n 0, 1) := by decide +kernel
theorem dX0_receive_11 : decode cX0_receive 11 = .ok (.dup, 1) := by decide +kernel
theorem dX0_receive_12 : decode cX0_receive 12 = .ok (.getfield 124, 3) := by decide +kernel
theorem dX0_receive_15 : decode cX0_receive 15 = .ok (.iload_n 1, 1) := by decide +kernel
theorem dX0_receive_16 : decode cX0_receive 16 = .ok (.iadd, 1) := by decide +kernel
theorem dX0_receive_17 : decode cX0_receive 17 = .ok (.putfield 124, 3) := by decide +kernel
theorem dX0_receive_20 : decode cX0_receive 20 = .ok (.return_, 1) := by decide +kernel
theorem dX0_passTick_0 : decode cX0_passTick 0 = .ok (.iconst 0, 1) := by decide +kernel
theorem dX0_passTick_1 : decode cX0_passTick 1 = .ok (.istore_n 1, 1) := by decide +kernel
theorem dX0_passTick_2 : decode cX0_passTick 2 = .ok (.iconst 0, 1) := by decide +kernel
theorem dX0_passTick_3 : decode cX0_passTick 3 = .ok (.istore_n 2, 1) := by decide +kernel
theorem dX0_passTick_4 : decode cX0_passTick 4 = .ok (.iload_n 2, 1) := by decide +kernel
theorem dX0_passTick_5 : decode cX0_passTick 5 = .ok (.bipush 8, 2) := by decide +kernel
theorem dX0_passTick_7 : decode cX0_passTick 7 = .ok (.if_icmp .ge 78, 3) := by decide +kernel
theorem dX0_passTick_10 : decode cX0_passTick 10 = .ok (.aload_n 0, 1) := by decide +kernel
theorem dX0_passTick_11 : decode cX0_passTick 11 = .ok (.iload_n 2, 1) := by decide +kernel
theorem dX0_passTick_12 : decode cX0_passTick 12 = .ok (.invokevirtual 39, 3) := by decide +kernel
theorem dX0_passTick_15 : decode cX0_passTick 15 = .ok (.astore_n 3, 1) := by decide +kernel
theorem dX0_passTick_16 : decode cX0_passTick 16 = .ok (.aload_n 3, 1) := by decide +kernel
theorem dX0_passTick_17 : decode cX0_passTick 17 = .ok (.ifnull 62, 3) := by decide +kernel
theorem dX0_passTick_20 : decode cX0_passTick 20 = .ok (.aload_n 3, 1) := by decide +kernel
theorem dX0_passTick_21 : decode cX0_passTick 21 = .ok (.getfield 88, 3) := by decide +kernel
theorem dX0_passTick_24 : decode cX0_passTick 24 = .ok (.ifCond .eq 6, 3) := by decide +kernel
theorem dX0_passTick_27 : decode cX0_passTick 27 = .ok (.goto 52, 3) := by decide +kernel
theorem dX0_passTick_30 : decode cX0_passTick 30 = .ok (.aload_n 3, 1) := by decide +kernel
theorem dX0_passTick_31 : decode cX0_passTick 31 = .ok (.dup, 1) := by decide +kernel
theorem dX0_passTick_32 : decode cX0_passTick 32 = .ok (.getfield 115, 3) := by decide +kernel
theorem dX0_passTick_35 : decode cX0_passTick 35 = .ok (.aload_n 0, 1) := by decide +kernel
theorem dX0_passTick_36 : decode cX0_passTick 36 = .ok (.aload_n 3, 1) := by decide +kernel
theorem dX0_passTick_37 : decode cX0_passTick 37 = .ok (.invokevirtual 127, 3) := by decide +kernel
theorem dX0_passTick_40 : decode cX0_passTick 40 = .ok (.iadd, 1) := by decide +kernel
theorem dX0_passTick_41 : decode cX0_passTick 41 = .ok (.putfield 115, 3) := by decide +kernel
theorem dX0_passTick_44 : decode cX0_passTick 44 = .ok (.aload_n 3, 1) := by decide +kernel
theorem dX0_passTick_45 : decode cX0_passTick 45 = .ok (.getfield 115, 3) := by decide +kernel
theorem dX0_passTick_48 : decode cX0_passTick 48 = .ok (.aload_n 0, 1) := by decide +kernel
theorem dX0_passTick_49 : decode cX0_passTick 49 = .ok (.iconst 2, 1) := by decide +kernel
theorem dX0_passTick_50 : decode cX0_passTick 50 = .ok (.invokevirtual 112, 3) := by decide +kernel
theorem dX0_passTick_53 : decode cX0_passTick 53 = .ok (.if_icmp .le 26, 3) := by decide +kernel
theorem dX0_passTick_56 : decode cX0_passTick 56 = .ok (.aload_n 0, 1) := by decide +kernel
theorem dX0_passTick_57 : decode cX0_passTick 57 = .ok (.dup, 1) := by decide +kernel
theorem dX0_passTick_58 : decode cX0_passTick 58 = .ok (.getfield 130, 3) := by decide +kernel
theorem dX0_passTick_61 : decode cX0_passTick 61 = .ok (.aload_n 3, 1) := by decide +kernel
theorem dX0_passTick_62 : decode cX0_passTick 62 = .ok (.getfield 115, 3) := by decide +kernel
theorem dX0_passTick_65 : decode cX0_passTick 65 = .ok (.iadd, 1) := by decide +kernel
theorem dX0_passTick_66 : decode cX0_passTick 66 = .ok (.putfield 130, 3) := by decide +kernel
theorem dX0_passTick_69 : decode cX0_passTick 69 = .ok (.aload_n 3, 1) := by decide +kernel
theorem dX0_passTick_70 : decode cX0_passTick 70 = .ok (.invokevirtual 133, 3) := by decide +kernel
theorem dX0_passTick_73 : decode cX0_passTick 73 = .ok (.iload_n 1, 1) := by decide +kernel
theorem dX0_passTick_74 : decode cX0_passTick 74 = .ok (.iconst 1, 1) := by decide +kernel
theorem dX0_passTick_75 : decode cX0_passTick 75 = .ok (.iload_n 2, 1) := by decide +kernel
theorem dX0_passTick_76 : decode cX0_passTick 76 = .ok (.ishl, 1) := by decide +kernel
theorem dX0_passTick_77 : decode cX0_passTick 77 = .ok (.ior, 1) := by decide +kernel
theorem dX0_passTick_78 : decode cX0_passTick 78 = .ok (.istore_n 1, 1) := by decide +kernel
theorem dX0_passTick_79 : decode cX0_passTick 79 = .ok (.iinc 2 1, 3) := by decide +kernel
theorem dX0_passTick_82 : decode cX0_passTick 82 = .ok (.goto (-78), 3) := by decide +kernel
theorem dX0_passTick_85 : decode cX0_passTick 85 = .ok (.aload_n 0, 1) := by decide +kernel
theorem dX0_passTick_86 : decode cX0_passTick 86 = .ok (.aload_n 0, 1) := by decide +kernel
theorem dX0_passTick_87 : decode cX0_passTick 87 = .ok (.iconst 3, 1) := by decide +kernel
theorem dX0_passTick_88 : decode cX0_passTick 88 = .ok (.invokevirtual 112, 3) := by decide +kernel
theorem dX0_passTick_91 : decode cX0_passTick 91 = .ok (.invokevirtual 136, 3) := by decide +kernel
theorem dX0_passTick_94 : decode cX0_passTick 94 = .ok (.aload_n 0, 1) := by decide +kernel
theorem dX0_passTick_95 : decode cX0_passTick 95 = .ok (.dup, 1) := by decide +kernel
theorem dX0_passTick_96 : decode cX0_passTick 96 = .ok (.getfield 139, 3) := by decide +kernel
theorem dX0_passTick_99 : decode cX0_passTick 99 = .ok (.iconst 1, 1) := by decide +kernel
theorem dX0_passTick_100 : decode cX0_passTick 100 = .ok (.iadd, 1) := by decide +kernel
theorem dX0_passTick_101 : decode cX0_passTick 101 = .ok (.putfield 139, 3) := by decide +kernel
theorem dX0_passTick_104 : decode cX0_passTick 104 = .ok (.iload_n 1, 1) := by decide +kernel
theorem dX0_passTick_105 : decode cX0_passTick 105 = .ok (.ireturn, 1) := by decide +kernel
theorem dX0_spend_0 : decode cX0_spend 0 = .ok (.aload_n 0, 1) := by decide +kernel
theorem dX0_spend_1 : decode cX0_spend 1 = .ok (.dup, 1) := by decide +kernel
theorem dX0_spend_2 : decode cX0_spend 2 = .ok (.getfield 121, 3) := by decide +kernel
theorem dX0_spend_5 : decode cX0_spend 5 = .ok (.iload_n 2, 1) := by decide +kernel
theorem dX0_spend_6 : decode cX0_spend 6 = .ok (.isub, 1) := by decide +kernel
theorem dX0_spend_7 : decode cX0_spend 7 = .ok (.putfield 121, 3) := by decide +kernel
theorem dX0_spend_10 : decode cX0_spend 10 = .ok (.aload_n 1, 1) := by decide +kernel
theorem dX0_spend_11 : decode cX0_spend 11 = .ok (.dup, 1) := by decide +kernel
theorem dX0_spend_12 : decode cX0_spend 12 = .ok (.getfield 142, 3) := by decide +kernel
theorem dX0_spend_15 : decode cX0_spend 15 = .ok (.iload_n 2, 1) := by decide +kernel
theorem dX0_spend_16 : decode cX0_spend 16 = .ok (.iadd, 1) := by decide +kernel
theorem dX0_spend_17 : decode cX0_spend 17 = .ok (.putfield 142, 3) := by decide +kernel
theorem dX0_spend_20 : decode cX0_spend 20 = .ok (.return_, 1) := by decide +kernel
theorem dX0_payOne_0 : decode cX0_payOne 0 = .ok (.iload_n 2, 1) := by decide +kernel
theorem dX0_payOne_1 : decode cX0_payOne 1 = .ok (.aload_n 0, 1) := by decide +kernel
theorem dX0_payOne_2 : decode cX0_payOne 2 = .ok (.getfield 121, 3) := by decide +kernel
theorem dX0_payOne_5 : decode cX0_payOne 5 = .ok (.invokestatic 145, 3) := by decide +kernel
theorem dX0_payOne_8 : decode cX0_payOne 8 = .ok (.istore_n 3, 1) := by decide +kernel
theorem dX0_payOne_9 : decode cX0_payOne 9 = .ok (.aload_n 0, 1) := by decide +kernel
theorem dX0_payOne_10 : decode cX0_payOne 10 = .ok (.iconst 4, 1) := by decide +kernel
theorem dX0_payOne_11 : decode cX0_payOne 11 = .ok (.invokevirtual 112, 3) := by decide +kernel
theorem dX0_payOne_14 : decode cX0_payOne 14 = .ok (.ifCond .ne 28, 3) := by decide +kernel
theorem dX0_payOne_17 : decode cX0_payOne 17 = .ok (.aload_n 0, 1) := by decide +kernel
theorem dX0_payOne_18 : decode cX0_payOne 18 = .ok (.aload_n 1, 1) := by decide +kernel
theorem dX0_payOne_19 : decode cX0_payOne 19 = .ok (.iload_n 3, 1) := by decide +kernel
theorem dX0_payOne_20 : decode cX0_payOne 20 = .ok (.invokevirtual 151, 3) := by decide +kernel
theorem dX0_payOne_23 : decode cX0_payOne 23 = .ok (.istore 4, 2) := by decide +kernel
theorem dX0_payOne_25 : decode cX0_payOne 25 = .ok (.iload 4, 2) := by decide +kernel
theorem dX0_payOne_27 : decode cX0_payOne 27 = .ok (.aload_n 0, 1) := by decide +kernel
theorem dX0_payOne_28 : decode cX0_payOne 28 = .ok (.aload_n 1, 1) := by decide +kernel
theorem dX0_payOne_29 : decode cX0_payOne 29 = .ok (.iload_n 3, 1) := by decide +kernel
theorem dX0_payOne_30 : decode cX0_payOne 30 = .ok (.iload 4, 2) := by decide +kernel
theorem dX0_payOne_32 : decode cX0_payOne 32 = .ok (.isub, 1) := by decide +kernel
theorem dX0_payOne_33 : decode cX0_payOne 33 = .ok (.invokevirtual 155, 3) := by decide +kernel
theorem dX0_payOne_36 : decode cX0_payOne 36 = .ok (.iadd, 1) := by decide +kernel
theorem dX0_payOne_37 : decode cX0_payOne 37 = .ok (.istore 4, 2) := by decide +kernel
theorem dX0_payOne_39 : decode cX0_payOne 39 = .ok (.goto 25, 3) := by decide +kernel
theorem dX0_payOne_42 : decode cX0_payOne 42 = .ok (.aload_n 0, 1) := by decide +kernel
theorem dX0_payOne_43 : decode cX0_payOne 43 = .ok (.aload_n 1, 1) := by decide +kernel
theorem dX0_payOne_44 : decode cX0_payOne 44 = .ok (.iload_n 3, 1) := by decide +kernel
theorem dX0_payOne_45 : decode cX0_payOne 45 = .ok (.invokevirtual 155, 3) := by decide +kernel
theorem dX0_payOne_48 : decode cX0_payOne 48 = .ok (.istore 4, 2) := by decide +kernel
theorem dX0_payOne_50 : decode cX0_payOne 50 = .ok (.iload 4, 2) := by decide +kernel
theorem dX0_payOne_52 : decode cX0_payOne 52 = .ok (.aload_n 0, 1) := by decide +kernel
theorem dX0_payOne_53 : decode cX0_payOne 53 = .ok (.aload_n 1, 1) := by decide +kernel
theorem dX0_payOne_54 : decode cX0_payOne 54 = .ok (.iload_n 3, 1) := by decide +kernel
theorem dX0_payOne_55 : decode cX0_payOne 55 = .ok (.iload 4, 2) := by decide +kernel
theorem dX0_payOne_57 : decode cX0_payOne 57 = .ok (.isub, 1) := by decide +kernel
theorem dX0_payOne_58 : decode cX0_payOne 58 = .ok (.invokevirtual 151, 3) := by decide +kernel
theorem dX0_payOne_61 : decode cX0_payOne 61 = .ok (.iadd, 1) := by decide +kernel
theorem dX0_payOne_62 : decode cX0_payOne 62 = .ok (.istore 4, 2) := by decide +kernel
theorem dX0_payOne_64 : decode cX0_payOne 64 = .ok (.iload 4, 2) := by decide +kernel
theorem dX0_payOne_66 : decode cX0_payOne 66 = .ok (.ireturn, 1) := by decide +kernel
theorem dX0_payDebt_0 : decode cX0_payDebt 0 = .ok (.iload_n 2, 1) := by decide +kernel
theorem dX0_payDebt_1 : decode cX0_payDebt 1 = .ok (.aload_n 1, 1) := by decide +kernel
theorem dX0_payDebt_2 : decode cX0_payDebt 2 = .ok (.getfield 115, 3) := by decide +kernel
theorem dX0_payDebt_5 : decode cX0_payDebt 5 = .ok (.invokestatic 145, 3) := by decide +kernel
theorem dX0_payDebt_8 : decode cX0_payDebt 8 = .ok (.istore_n 3, 1) := by decide +kernel
theorem dX0_payDebt_9 : decode cX0_payDebt 9 = .ok (.aload_n 1, 1) := by decide +kernel
theorem dX0_payDebt_10 : decode cX0_payDebt 10 = .ok (.dup, 1) := by decide +kernel
theorem dX0_payDebt_11 : decode cX0_payDebt 11 = .ok (.getfield 115, 3) := by decide +kernel
theorem dX0_payDebt_14 : decode cX0_payDebt 14 = .ok (.iload_n 3, 1) := by decide +kernel
theorem dX0_payDebt_15 : decode cX0_payDebt 15 = .ok (.isub, 1) := by decide +kernel
theorem dX0_payDebt_16 : decode cX0_payDebt 16 = .ok (.putfield 115, 3) := by decide +kernel
theorem dX0_payDebt_19 : decode cX0_payDebt 19 = .ok (.aload_n 0, 1) := by decide +kernel
theorem dX0_payDebt_20 : decode cX0_payDebt 20 = .ok (.dup, 1) := by decide +kernel
theorem dX0_payDebt_21 : decode cX0_payDebt 21 = .ok (.getfield 158, 3) := by decide +kernel
theorem dX0_payDebt_24 : decode cX0_payDebt 24 = .ok (.iload_n 3, 1) := by decide +kernel
theorem dX0_payDebt_25 : decode cX0_payDebt 25 = .ok (.iadd, 1) := by decide +kernel
theorem dX0_payDebt_26 : decode cX0_payDebt 26 = .ok (.putfield 158, 3) := by decide +kernel
theorem dX0_payDebt_29 : decode cX0_payDebt 29 = .ok (.aload_n 0, 1) := by decide +kernel
theorem dX0_payDebt_30 : decode cX0_payDebt 30 = .ok (.aload_n 1, 1) := by decide +kernel
theorem dX0_payDebt_31 : decode cX0_payDebt 31 = .ok (.iload_n 3, 1) := by decide +kernel
theorem dX0_payDebt_32 : decode cX0_payDebt 32 = .ok (.invokevirtual 161, 3) := by decide +kernel
theorem dX0_payDebt_35 : decode cX0_payDebt 35 = .ok (.iload_n 3, 1) := by decide +kernel
theorem dX0_payDebt_36 : decode cX0_payDebt 36 = .ok (.ireturn, 1) := by decide +kernel
theorem dX0_payArrears_0 : decode cX0_payArrears 0 = .ok (.aload_n 0, 1) := by decide +kernel
theorem dX0_payArrears_1 : decode cX0_payArrears 1 = .ok (.aload_n 1, 1) := by decide +kernel
theorem dX0_payArrears_2 : decode cX0_payArrears 2 = .ok (.invokevirtual 118, 3) := by decide +kernel
theorem dX0_payArrears_5 : decode cX0_payArrears 5 = .ok (.istore_n 3, 1) := by decide +kernel
theorem dX0_payArrears_6 : decode cX0_payArrears 6 = .ok (.iconst 0, 1) := by decide +kernel
theorem dX0_payArrears_7 : decode cX0_payArrears 7 = .ok (.istore 4, 2) := by decide +kernel
theorem dX0_payArrears_9 : decode cX0_payArrears 9 = .ok (.aload_n 1, 1) := by decide +kernel
theorem dX0_payArrears_10 : decode cX0_payArrears 10 = .ok (.getfield 101, 3) := by decide +kernel
theorem dX0_payArrears_13 : decode cX0_payArrears 13 = .ok (.istore 5, 2) := by decide +kernel
theorem dX0_payArrears_15 : decode cX0_payArrears 15 = .ok (.iload 5, 2) := by decide +kernel
theorem dX0_payArrears_17 : decode cX0_payArrears 17 = .ok (.aload_n 0, 1) := by decide +kernel
theorem dX0_payArrears_18 : decode cX0_payArrears 18 = .ok (.getfield 12, 3) := by decide +kernel
theorem dX0_payArrears_21 : decode cX0_payArrears 21 = .ok (.getfield 67, 3) := by decide +kernel
theorem dX0_payArrears_24 : decode cX0_payArrears 24 = .ok (.if_icmp .ge 42, 3) := by decide +kernel
theorem dX0_payArrears_27 : decode cX0_payArrears 27 = .ok (.aload_n 1, 1) := by decide +kernel
theorem dX0_payArrears_28 : decode cX0_payArrears 28 = .ok (.aload_n 0, 1) := by decide +kernel
theorem dX0_payArrears_29 : decode cX0_payArrears 29 = .ok (.getfield 12, 3) := by decide +kernel
theorem dX0_payArrears_32 : decode cX0_payArrears 32 = .ok (.iload 5, 2) := by decide +kernel
theorem dX0_payArrears_34 : decode cX0_payArrears 34 = .ok (.invokevirtual 104, 3) := by decide +kernel
theorem dX0_payArrears_37 : decode cX0_payArrears 37 = .ok (.invokevirtual 98, 3) := by decide +kernel
theorem dX0_payArrears_40 : decode cX0_payArrears 40 = .ok (.ifCond .eq 20, 3) := by decide +kernel
theorem dX0_payArrears_43 : decode cX0_payArrears 43 = .ok (.iload 4, 2) := by decide +kernel
theorem dX0_payArrears_45 : decode cX0_payArrears 45 = .ok (.iload_n 3, 1) := by decide +kernel
theorem dX0_payArrears_46 : decode cX0_payArrears 46 = .ok (.iadd, 1) := by decide +kernel
theorem dX0_payArrears_47 : decode cX0_payArrears 47 = .ok (.iload_n 2, 1) := by decide +kernel
theorem dX0_payArrears_48 : decode cX0_payArrears 48 = .ok (.if_icmp .le 6, 3) := by decide +kernel
theorem dX0_payArrears_51 : decode cX0_payArrears 51 = .ok (.goto 15, 3) := by decide +kernel
theorem dX0_payArrears_54 : decode cX0_payArrears 54 = .ok (.iload 4, 2) := by decide +kernel
theorem dX0_payArrears_56 : decode cX0_payArrears 56 = .ok (.iload_n 3, 1) := by decide +kernel
theorem dX0_payArrears_57 : decode cX0_payArrears 57 = .ok (.iadd, 1) := by decide +kernel
theorem dX0_payArrears_58 : decode cX0_payArrears 58 = .ok (.istore 4, 2) := by decide +kernel
theorem dX0_payArrears_60 : decode cX0_payArrears 60 = .ok (.iinc 5 1, 3) := by decide +kernel
theorem dX0_payArrears_63 : decode cX0_payArrears 63 = .ok (.goto (-48), 3) := by decide +kernel
theorem dX0_payArrears_66 : decode cX0_payArrears 66 = .ok (.aload_n 1, 1) := by decide +kernel
theorem dX0_payArrears_67 : decode cX0_payArrears 67 = .ok (.iload 5, 2) := by decide +kernel
theorem dX0_payArrears_69 : decode cX0_payArrears 69 = .ok (.putfield 101, 3) := by decide +kernel
theorem dX0_payArrears_72 : decode cX0_payArrears 72 = .ok (.aload_n 0, 1) := by decide +kernel
theorem dX0_payArrears_73 : decode cX0_payArrears 73 = .ok (.dup, 1) := by decide +kernel
theorem dX0_payArrears_74 : decode cX0_payArrears 74 = .ok (.getfield 165, 3) := by decide +kernel
theorem dX0_payArrears_77 : decode cX0_payArrears 77 = .ok (.iload 4, 2) := by decide +kernel
theorem dX0_payArrears_79 : decode cX0_payArrears 79 = .ok (.iadd, 1) := by decide +kernel
theorem dX0_payArrears_80 : decode cX0_payArrears 80 = .ok (.putfield 165, 3) := by decide +kernel
theorem dX0_payArrears_83 : decode cX0_payArrears 83 = .ok (.aload_n 0, 1) := by decide +kernel
theorem dX0_payArrears_84 : decode cX0_payArrears 84 = .ok (.aload_n 1, 1) := by decide +kernel
theorem dX0_payArrears_85 : decode cX0_payArrears 85 = .ok (.iload 4, 2) := by decide +kernel
theorem dX0_payArrears_87 : decode cX0_payArrears 87 = .ok (.invokevirtual 161, 3) := by decide +kernel
theorem dX0_payArrears_90 : decode cX0_payArrears 90 = .ok (.iload 4, 2) := by decide +kernel
theorem dX0_payArrears_92 : decode cX0_payArrears 92 = .ok (.ireturn, 1) := by decide +kernel
theorem dX0_foundAnew_0 : decode cX0_foundAnew 0 = .ok (.aload_n 0, 1) := by decide +kernel
theorem dX0_foundAnew_1 : decode cX0_foundAnew 1 = .ok (.dup, 1) := by decide +kernel
theorem dX0_foundAnew_2 : decode cX0_foundAnew 2 = .ok (.getfield 183, 3) := by decide +kernel
theorem dX0_foundAnew_5 : decode cX0_foundAnew 5 = .ok (.iload_n 2, 1) := by decide +kernel
theorem dX0_foundAnew_6 : decode cX0_foundAnew 6 = .ok (.iadd, 1) := by decide +kernel
theorem dX0_foundAnew_7 : decode cX0_foundAnew 7 = .ok (.putfield 183, 3) := by decide +kernel
theorem dX0_foundAnew_10 : decode cX0_foundAnew 10 = .ok (.aload_n 0, 1) := by decide +kernel
theorem dX0_foundAnew_11 : decode cX0_foundAnew 11 = .ok (.aload_n 1, 1) := by decide +kernel
theorem dX0_foundAnew_12 : decode cX0_foundAnew 12 = .ok (.iload_n 2, 1) := by decide +kernel
theorem dX0_foundAnew_13 : decode cX0_foundAnew 13 = .ok (.invokevirtual 161, 3) := by decide +kernel
theorem dX0_foundAnew_16 : decode cX0_foundAnew 16 = .ok (.aload_n 1, 1) := by decide +kernel
theorem dX0_foundAnew_17 : decode cX0_foundAnew 17 = .ok (.aload_n 0, 1) := by decide +kernel
theorem dX0_foundAnew_18 : decode cX0_foundAnew 18 = .ok (.getfield 12, 3) := by decide +kernel
theorem dX0_foundAnew_21 : decode cX0_foundAnew 21 = .ok (.getfield 67, 3) := by decide +kernel
theorem dX0_foundAnew_24 : decode cX0_foundAnew 24 = .ok (.invokevirtual 186, 3) := by decide +kernel
theorem dX0_foundAnew_27 : decode cX0_foundAnew 27 = .ok (.return_, 1) := by decide +kernel
theorem dX0_copyFrom_0 : decode cX0_copyFrom 0 = .ok (.aload_n 0, 1) := by decide +kernel
theorem dX0_copyFrom_1 : decode cX0_copyFrom 1 = .ok (.getfield 12, 3) := by decide +kernel
theorem dX0_copyFrom_4 : decode cX0_copyFrom 4 = .ok (.aload_n 1, 1) := by decide +kernel
theorem dX0_copyFrom_5 : decode cX0_copyFrom 5 = .ok (.getfield 12, 3) := by decide +kernel
theorem dX0_copyFrom_8 : decode cX0_copyFrom 8 = .ok (.invokevirtual 189, 3) := by decide +kernel
theorem dX0_copyFrom_11 : decode cX0_copyFrom 11 = .ok (.iconst 0, 1) := by decide +kernel
theorem dX0_copyFrom_12 : decode cX0_copyFrom 12 = .ok (.istore_n 2, 1) := by decide +kernel
theorem dX0_copyFrom_13 : decode cX0_copyFrom 13 = .ok (.iload_n 2, 1) := by decide +kernel
theorem dX0_copyFrom_14 : decode cX0_copyFrom 14 = .ok (.aload_n 0, 1) := by decide +kernel
theorem dX0_copyFrom_15 : decode cX0_copyFrom 15 = .ok (.getfield 20, 3) := by decide +kernel
theorem dX0_copyFrom_18 : decode cX0_copyFrom 18 = .ok (.arraylength, 1) := by decide +kernel
theorem dX0_copyFrom_19 : decode cX0_copyFrom 19 = .ok (.if_icmp .ge 51, 3) := by decide +kernel
theorem dX0_copyFrom_22 : decode cX0_copyFrom 22 = .ok (.iload_n 2, 1) := by decide +kernel
theorem dX0_copyFrom_23 : decode cX0_copyFrom 23 = .ok (.aload_n 1, 1) := by decide +kernel
theorem dX0_copyFrom_24 : decode cX0_copyFrom 24 = .ok (.getfield 20, 3) := by decide +kernel
theorem dX0_copyFrom_27 : decode cX0_copyFrom 27 = .ok (.arraylength, 1) := by decide +kernel
theorem dX0_copyFrom_28 : decode cX0_copyFrom 28 = .ok (.if_icmp .ge 42, 3) := by decide +kernel
theorem dX0_copyFrom_31 : decode cX0_copyFrom 31 = .ok (.aload_n 0, 1) := by decide +kernel
theorem dX0_copyFrom_32 : decode cX0_copyFrom 32 = .ok (.getfield 20, 3) := by decide +kernel
theorem dX0_copyFrom_35 : decode cX0_copyFrom 35 = .ok (.iload_n 2, 1) := by decide +kernel
theorem dX0_copyFrom_36 : decode cX0_copyFrom 36 = .ok (.aaload, 1) := by decide +kernel
theorem dX0_copyFrom_37 : decode cX0_copyFrom 37 = .ok (.ifnull 27, 3) := by decide +kernel
theorem dX0_copyFrom_40 : decode cX0_copyFrom 40 = .ok (.aload_n 1, 1) := by decide +kernel
theorem dX0_copyFrom_41 : decode cX0_copyFrom 41 = .ok (.getfield 20, 3) := by decide +kernel
theorem dX0_copyFrom_44 : decode cX0_copyFrom 44 = .ok (.iload_n 2, 1) := by decide +kernel
theorem dX0_copyFrom_45 : decode cX0_copyFrom 45 = .ok (.aaload, 1) := by decide +kernel
theorem dX0_copyFrom_46 : decode cX0_copyFrom 46 = .ok (.ifnull 18, 3) := by decide +kernel
theorem dX0_copyFrom_49 : decode cX0_copyFrom 49 = .ok (.aload_n 0, 1) := by decide +kernel
theorem dX0_copyFrom_50 : decode cX0_copyFrom 50 = .ok (.getfield 20, 3) := by decide +kernel
theorem dX0_copyFrom_53 : decode cX0_copyFrom 53 = .ok (.iload_n 2, 1) := by decide +kernel
theorem dX0_copyFrom_54 : decode cX0_copyFrom 54 = .ok (.aaload, 1) := by decide +kernel
theorem dX0_copyFrom_55 : decode cX0_copyFrom 55 = .ok (.aload_n 1, 1) := by decide +kernel
theorem dX0_copyFrom_56 : decode cX0_copyFrom 56 = .ok (.getfield 20, 3) := by decide +kernel
theorem dX0_copyFrom_59 : decode cX0_copyFrom 59 = .ok (.iload_n 2, 1) := by decide +kernel
theorem dX0_copyFrom_60 : decode cX0_copyFrom 60 = .ok (.aaload, 1) := by decide +kernel
theorem dX0_copyFrom_61 : decode cX0_copyFrom 61 = .ok (.invokevirtual 193, 3) := by decide +kernel
theorem dX0_copyFrom_64 : decode cX0_copyFrom 64 = .ok (.iinc 2 1, 3) := by decide +kernel
theorem dX0_copyFrom_67 : decode cX0_copyFrom 67 = .ok (.goto (-54), 3) := by decide +kernel
theorem dX0_copyFrom_70 : decode cX0_copyFrom 70 = .ok (.iconst 0, 1) := by decide +kernel
theorem dX0_copyFrom_71 : decode cX0_copyFrom 71 = .ok (.istore_n 2, 1) := by decide +kernel
theorem dX0_copyFrom_72 : decode cX0_copyFrom 72 = .ok (.iload_n 2, 1) := by decide +kernel
theorem dX0_copyFrom_73 : decode cX0_copyFrom 73 = .ok (.aload_n 0, 1) := by decide +kernel
theorem dX0_copyFrom_74 : decode cX0_copyFrom 74 = .ok (.getfield 24, 3) := by decide +kernel
theorem dX0_copyFrom_77 : decode cX0_copyFrom 77 = .ok (.arraylength, 1) := by decide +kernel
theorem dX0_copyFrom_78 : decode cX0_copyFrom 78 = .ok (.if_icmp .ge 20, 3) := by decide +kernel
theorem dX0_copyFrom_81 : decode cX0_copyFrom 81 = .ok (.aload_n 0, 1) := by decide +kernel
theorem dX0_copyFrom_82 : decode cX0_copyFrom 82 = .ok (.getfield 24, 3) := by decide +kernel
theorem dX0_copyFrom_85 : decode cX0_copyFrom 85 = .ok (.iload_n 2, 1) := by decide +kernel
theorem dX0_copyFrom_86 : decode cX0_copyFrom 86 = .ok (.aload_n 1, 1) := by decide +kernel
theorem dX0_copyFrom_87 : decode cX0_copyFrom 87 = .ok (.iload_n 2, 1) := by decide +kernel
theorem dX0_copyFrom_88 : decode cX0_copyFrom 88 = .ok (.invokevirtual 112, 3) := by decide +kernel
theorem dX0_copyFrom_91 : decode cX0_copyFrom 91 = .ok (.iastore, 1) := by decide +kernel
theorem dX0_copyFrom_92 : decode cX0_copyFrom 92 = .ok (.iinc 2 1, 3) := by decide +kernel
theorem dX0_copyFrom_95 : decode cX0_copyFrom 95 = .ok (.goto (-23), 3) := by decide +kernel
theorem dX0_copyFrom_98 : decode cX0_copyFrom 98 = .ok (.aload_n 0, 1) := by decide +kernel
theorem dX0_copyFrom_99 : decode cX0_copyFrom 99 = .ok (.aload_n 1, 1) := by decide +kernel
theorem dX0_copyFrom_100 : decode cX0_copyFrom 100 = .ok (.getfield 43, 3) := by decide +kernel
theorem dX0_copyFrom_103 : decode cX0_copyFrom 103 = .ok (.putfield 43, 3) := by decide +kernel
theorem dX0_copyFrom_106 : decode cX0_copyFrom 106 = .ok (.aload_n 0, 1) := by decide +kernel
theorem dX0_copyFrom_107 : decode cX0_copyFrom 107 = .ok (.aload_n 1, 1) := by decide +kernel
theorem dX0_copyFrom_108 : decode cX0_copyFrom 108 = .ok (.getfield 121, 3) := by decide +kernel
theorem dX0_copyFrom_111 : decode cX0_copyFrom 111 = .ok (.putfield 121, 3) := by decide +kernel
theorem dX0_copyFrom_114 : decode cX0_copyFrom 114 = .ok (.aload_n 0, 1) := by decide +kernel
theorem dX0_copyFrom_115 : decode cX0_copyFrom 115 = .ok (.aload_n 1, 1) := by decide +kernel
theorem dX0_copyFrom_116 : decode cX0_copyFrom 116 = .ok (.getfield 124, 3) := by decide +kernel
theorem dX0_copyFrom_119 : decode cX0_copyFrom 119 = .ok (.putfield 124, 3) := by decide +kernel
theorem dX0_copyFrom_122 : decode cX0_copyFrom 122 = .ok (.aload_n 0, 1) := by decide +kernel
theorem dX0_copyFrom_123 : decode cX0_copyFrom 123 = .ok (.aload_n 1, 1) := by decide +kernel
theorem dX0_copyFrom_124 : decode cX0_copyFrom 124 = .ok (.getfield 158, 3) := by decide +kernel
theorem dX0_copyFrom_127 : decode cX0_copyFrom 127 = .ok (.putfield 158, 3) := by decide +kernel
theorem dX0_copyFrom_130 : decode cX0_copyFrom 130 = .ok (.aload_n 0, 1) := by decide +kernel
theorem dX0_copyFrom_131 : decode cX0_copyFrom 131 = .ok (.aload_n 1, 1) := by decide +kernel
theorem dX0_copyFrom_132 : decode cX0_copyFrom 132 = .ok (.getfield 165, 3) := by decide +kernel
theorem dX0_copyFrom_135 : decode cX0_copyFrom 135 = .ok (.putfield 165, 3) := by decide +kernel
theorem dX0_copyFrom_138 : decode cX0_copyFrom 138 = .ok (.aload_n 0, 1) := by decide +kernel
theorem dX0_copyFrom_139 : decode cX0_copyFrom 139 = .ok (.aload_n 1, 1) := by decide +kernel
theorem dX0_copyFrom_140 : decode cX0_copyFrom 140 = .ok (.getfield 183, 3) := by decide +kernel
theorem dX0_copyFrom_143 : decode cX0_copyFrom 143 = .ok (.putfield 183, 3) := by decide +kernel
theorem dX0_copyFrom_146 : decode cX0_copyFrom 146 = .ok (.aload_n 0, 1) := by decide +kernel
theorem dX0_copyFrom_147 : decode cX0_copyFrom 147 = .ok (.aload_n 1, 1) := by decide +kernel
theorem dX0_copyFrom_148 : decode cX0_copyFrom 148 = .ok (.getfield 130, 3) := by decide +kernel
theorem dX0_copyFrom_151 : decode cX0_copyFrom 151 = .ok (.putfield 130, 3) := by decide +kernel
theorem dX0_copyFrom_154 : decode cX0_copyFrom 154 = .ok (.aload_n 0, 1) := by decide +kernel
theorem dX0_copyFrom_155 : decode cX0_copyFrom 155 = .ok (.aload_n 1, 1) := by decide +kernel
theorem dX0_copyFrom_156 : decode cX0_copyFrom 156 = .ok (.getfield 139, 3) := by decide +kernel
theorem dX0_copyFrom_159 : decode cX0_copyFrom 159 = .ok (.putfield 139, 3) := by decide +kernel
theorem dX0_copyFrom_162 : decode cX0_copyFrom 162 = .ok (.return_, 1) := by decide +kernel
theorem dX1_init_0 : decode cX1_init 0 = .ok (.aload_n 0, 1) := by decide +kernel
theorem dX1_init_1 : decode cX1_init 1 = .ok (.invokespecial 3, 3) := by decide +kernel
theorem dX1_init_4 : decode cX1_init 4 = .ok (.aload_n 0, 1) := by decide +kernel
theorem dX1_init_5 : decode cX1_init 5 = .ok (.iconst 5, 1) := by decide +kernel
theorem dX1_init_6 : decode cX1_init 6 = .ok (.anewarray 9, 3) := by decide +kernel
theorem dX1_init_9 : decode cX1_init 9 = .ok (.putfield 11, 3) := by decide +kernel
theorem dX1_init_12 : decode cX1_init 12 = .ok (.iconst 0, 1) := by decide +kernel
theorem dX1_init_13 : decode cX1_init 13 = .ok (.istore_n 1, 1) := by decide +kernel
theorem dX1_init_14 : decode cX1_init 14 = .ok (.iload_n 1, 1) := by decide +kernel
theorem dX1_init_15 : decode cX1_init 15 = .ok (.aload_n 0, 1) := by decide +kernel
theorem dX1_init_16 : decode cX1_init 16 = .ok (.getfield 11, 3) := by decide +kernel
theorem dX1_init_19 : decode cX1_init 19 = .ok (.arraylength, 1) := by decide +kernel
theorem dX1_init_20 : decode cX1_init 20 = .ok (.if_icmp .ge 22, 3) := by decide +kernel
theorem dX1_init_23 : decode cX1_init 23 = .ok (.aload_n 0, 1) := by decide +kernel
theorem dX1_init_24 : decode cX1_init 24 = .ok (.getfield 11, 3) := by decide +kernel
theorem dX1_init_27 : decode cX1_init 27 = .ok (.iload_n 1, 1) := by decide +kernel
theorem dX1_init_28 : decode cX1_init 28 = .ok (.new 9, 3) := by decide +kernel
theorem dX1_init_31 : decode cX1_init 31 = .ok (.dup, 1) := by decide +kernel
theorem dX1_init_32 : decode cX1_init 32 = .ok (.invokespecial 17, 3) := by decide +kernel
theorem dX1_init_35 : decode cX1_init 35 = .ok (.aastore, 1) := by decide +kernel
theorem dX1_init_36 : decode cX1_init 36 = .ok (.iinc 1 1, 3) := by decide +kernel
theorem dX1_init_39 : decode cX1_init 39 = .ok (.goto (-25), 3) := by decide +kernel
theorem dX1_init_42 : decode cX1_init 42 = .ok (.return_, 1) := by decide +kernel
theorem dX1_record_0 : decode cX1_record 0 = .ok (.aload_n 0, 1) := by decide +kernel
theorem dX1_record_1 : decode cX1_record 1 = .ok (.getfield 18, 3) := by decide +kernel
theorem dX1_record_4 : decode cX1_record 4 = .ok (.iconst 5, 1) := by decide +kernel
theorem dX1_record_5 : decode cX1_record 5 = .ok (.if_icmp .ne 25, 3) := by decide +kernel
theorem dX1_record_8 : decode cX1_record 8 = .ok (.aload_n 0, 1) := by decide +kernel
theorem dX1_record_9 : decode cX1_record 9 = .ok (.aload_n 0, 1) := by decide +kernel
theorem dX1_record_10 : decode cX1_record 10 = .ok (.getfield 22, 3) := by decide +kernel
theorem dX1_record_13 : decode cX1_record 13 = .ok (.iconst 1, 1) := by decide +kernel
theorem dX1_record_14 : decode cX1_record 14 = .ok (.iadd, 1) := by decide +kernel
theorem dX1_record_15 : decode cX1_record 15 = .ok (.iconst 5, 1) := by decide +kernel
theorem dX1_record_16 : decode cX1_record 16 = .ok (.irem, 1) := by decide +kernel
theorem dX1_record_17 : decode cX1_record 17 = .ok (.putfield 22, 3) := by decide +kernel
theorem dX1_record_20 : decode cX1_record 20 = .ok (.aload_n 0, 1) := by decide +kernel
theorem dX1_record_21 : decode cX1_record 21 = .ok (.dup, 1) := by decide +kernel
theorem dX1_record_22 : decode cX1_record 22 = .ok (.getfield 18, 3) := by decide +kernel
theorem dX1_record_25 : decode cX1_record 25 = .ok (.iconst 1, 1) := by decide +kernel
theorem dX1_record_26 : decode cX1_record 26 = .ok (.isub, 1) := by decide +kernel
theorem dX1_record_27 : decode cX1_record 27 = .ok (.putfield 18, 3) := by decide +kernel
theorem dX1_record_30 : decode cX1_record 30 = .ok (.aload_n 0, 1) := by decide +kernel
theorem dX1_record_31 : decode cX1_record 31 = .ok (.aload_n 0, 1) := by decide +kernel
theorem dX1_record_32 : decode cX1_record 32 = .ok (.getfield 18, 3) := by decide +kernel
theorem dX1_record_35 : decode cX1_record 35 = .ok (.invokevirtual 25, 3) := by decide +kernel
theorem dX1_record_38 : decode cX1_record 38 = .ok (.astore_n 2, 1) := by decide +kernel
theorem dX1_record_39 : decode cX1_record 39 = .ok (.aload_n 2, 1) := by decide +kernel
theorem dX1_record_40 : decode cX1_record 40 = .ok (.ifnull 18, 3) := by decide +kernel
theorem dX1_record_43 : decode cX1_record 43 = .ok (.aload_n 2, 1) := by decide +kernel
theorem dX1_record_44 : decode cX1_record 44 = .ok (.aload_n 1, 1) := by decide +kernel
theorem dX1_record_45 : decode cX1_record 45 = .ok (.invokevirtual 29, 3) := by decide +kernel
theorem dX1_record_48 : decode cX1_record 48 = .ok (.aload_n 0, 1) := by decide +kernel
theorem dX1_record_49 : decode cX1_record 49 = .ok (.dup, 1) := by decide +kernel
theorem dX1_record_50 : decode cX1_record 50 = .ok (.getfield 18, 3) := by decide +kernel
theorem dX1_record_53 : decode cX1_record 53 = .ok (.iconst 1, 1) := by decide +kernel
theorem dX1_record_54 : decode cX1_record 54 = .ok (.iadd, 1) := by decide +kernel
theorem dX1_record_55 : decode cX1_record 55 = .ok (.putfield 18, 3) := by decide +kernel
theorem dX1_record_58 : decode cX1_record 58 = .ok (.return_, 1) := by decide +kernel
theorem dX1_removeLatestInto_0 : decode cX1_removeLatestInto 0 = .ok (.aload_n 0, 1) := by decide +kernel
theorem dX1_removeLatestInto_1 : decode cX1_removeLatestInto 1 = .ok (.aload_n 0, 1) := by decide +kernel
theorem dX1_removeLatestInto_2 : decode cX1_removeLatestInto 2 = .ok (.getfield 18, 3) := by decide +kernel
theorem dX1_removeLatestInto_5 : decode cX1_removeLatestInto 5 = .ok (.iconst 1, 1) := by decide +kernel
theorem dX1_removeLatestInto_6 : decode cX1_removeLatestInto 6 = .ok (.isub, 1) := by decide +kernel
theorem dX1_removeLatestInto_7 : decode cX1_removeLatestInto 7 = .ok (.invokevirtual 25, 3) := by decide +kernel
theorem dX1_removeLatestInto_10 : decode cX1_removeLatestInto 10 = .ok (.astore_n 2, 1) := by decide +kernel
theorem dX1_removeLatestInto_11 : decode cX1_removeLatestInto 11 = .ok (.aload_n 2, 1) := by decide +kernel
theorem dX1_removeLatestInto_12 : decode cX1_removeLatestInto 12 = .ok (.ifnull 18, 3) := by decide +kernel
theorem dX1_removeLatestInto_15 : decode cX1_removeLatestInto 15 = .ok (.aload_n 1, 1) := by decide +kernel
theorem dX1_removeLatestInto_16 : decode cX1_removeLatestInto 16 = .ok (.aload_n 2, 1) := by decide +kernel
theorem dX1_removeLatestInto_17 : decode cX1_removeLatestInto 17 = .ok (.invokevirtual 29, 3) := by decide +kernel
theorem dX1_removeLatestInto_20 : decode cX1_removeLatestInto 20 = .ok (.aload_n 0, 1) := by decide +kernel
theorem dX1_removeLatestInto_21 : decode cX1_removeLatestInto 21 = .ok (.dup, 1) := by decide +kernel
theorem dX1_removeLatestInto_22 : decode cX1_removeLatestInto 22 = .ok (.getfield 18, 3) := by decide +kernel
theorem dX1_removeLatestInto_25 : decode cX1_removeLatestInto 25 = .ok (.iconst 1, 1) := by decide +kernel
theorem dX1_removeLatestInto_26 : decode cX1_removeLatestInto 26 = .ok (.isub, 1) := by decide +kernel
theorem dX1_removeLatestInto_27 : decode cX1_removeLatestInto 27 = .ok (.putfield 18, 3) := by decide +kernel
theorem dX1_removeLatestInto_30 : decode cX1_removeLatestInto 30 = .ok (.return_, 1) := by decide +kernel
theorem dX1_row_0 : decode cX1_row 0 = .ok (.aload_n 0, 1) := by decide +kernel
theorem dX1_row_1 : decode cX1_row 1 = .ok (.getfield 22, 3) := by decide +kernel
theorem dX1_row_4 : decode cX1_row 4 = .ok (.iload_n 1, 1) := by decide +kernel
theorem dX1_row_5 : decode cX1_row 5 = .ok (.iadd, 1) := by decide +kernel
theorem dX1_row_6 : decode cX1_row 6 = .ok (.iconst 5, 1) := by decide +kernel
theorem dX1_row_7 : decode cX1_row 7 = .ok (.irem, 1) := by decide +kernel
theorem dX1_row_8 : decode cX1_row 8 = .ok (.istore_n 2, 1) := by decide +kernel
theorem dX1_row_9 : decode cX1_row 9 = .ok (.iload_n 1, 1) := by decide +kernel
theorem dX1_row_10 : decode cX1_row 10 = .ok (.ifCond .lt 25, 3) := by decide +kernel
theorem dX1_row_13 : decode cX1_row 13 = .ok (.iload_n 2, 1) := by decide +kernel
theorem dX1_row_14 : decode cX1_row 14 = .ok (.ifCond .lt 21, 3) := by decide +kernel
theorem dX1_row_17 : decode cX1_row 17 = .ok (.iload_n 2, 1) := by decide +kernel
theorem dX1_row_18 : decode cX1_row 18 = .ok (.aload_n 0, 1) := by decide +kernel
theorem dX1_row_19 : decode cX1_row 19 = .ok (.getfield 11, 3) := by decide +kernel
theorem dX1_row_22 : decode cX1_row 22 = .ok (.arraylength, 1) := by decide +kernel
theorem dX1_row_23 : decode cX1_row 23 = .ok (.if_icmp .ge 12, 3) := by decide +kernel
theorem dX1_row_26 : decode cX1_row 26 = .ok (.aload_n 0, 1) := by decide +kernel
theorem dX1_row_27 : decode cX1_row 27 = .ok (.getfield 11, 3) := by decide +kernel
theorem dX1_row_30 : decode cX1_row 30 = .ok (.iload_n 2, 1) := by decide +kernel
theorem dX1_row_31 : decode cX1_row 31 = .ok (.aaload, 1) := by decide +kernel
theorem dX1_row_32 : decode cX1_row 32 = .ok (.goto 4, 3) := by decide +kernel
theorem dX1_row_35 : decode cX1_row 35 = .ok (.aconst_null, 1) := by decide +kernel
theorem dX1_row_36 : decode cX1_row 36 = .ok (.areturn, 1) := by decide +kernel
theorem dX2_init_0 : decode cX2_init 0 = .ok (.aload_n 0, 1) := by decide +kernel
theorem dX2_init_1 : decode cX2_init 1 = .ok (.invokespecial 3, 3) := by decide +kernel
theorem dX2_init_4 : decode cX2_init 4 = .ok (.aload_n 0, 1) := by decide +kernel
theorem dX2_init_5 : decode cX2_init 5 = .ok (.sipush 200, 3) := by decide +kernel
theorem dX2_init_8 : decode cX2_init 8 = .ok (.newarray .int, 2) := by decide +kernel
theorem dX2_init_10 : decode cX2_init 10 = .ok (.putfield 9, 3) := by decide +kernel
theorem dX2_init_13 : decode cX2_init 13 = .ok (.aload_n 0, 1) := by decide +kernel
theorem dX2_init_14 : decode cX2_init 14 = .ok (.sipush 200, 3) := by decide +kernel
theorem dX2_init_17 : decode cX2_init 17 = .ok (.newarray .int, 2) := by decide +kernel
theorem dX2_init_19 : decode cX2_init 19 = .ok (.putfield 15, 3) := by decide +kernel
theorem dX2_init_22 : decode cX2_init 22 = .ok (.return_, 1) := by decide +kernel
theorem dX2_isFull_0 : decode cX2_isFull 0 = .ok (.aload_n 0, 1) := by decide +kernel
theorem dX2_isFull_1 : decode cX2_isFull 1 = .ok (.getfield 18, 3) := by decide +kernel
theorem dX2_isFull_4 : decode cX2_isFull 4 = .ok (.sipush 200, 3) := by decide +kernel
theorem dX2_isFull_7 : decode cX2_isFull 7 = .ok (.if_icmp .lt 7, 3) := by decide +kernel
theorem dX2_isFull_10 : decode cX2_isFull 10 = .ok (.iconst 1, 1) := by decide +kernel
theorem dX2_isFull_11 : decode cX2_isFull 11 = .ok (.goto 4, 3) := by decide +kernel
theorem dX2_isFull_14 : decode cX2_isFull 14 = .ok (.iconst 0, 1) := by decide +kernel
theorem dX2_isFull_15 : decode cX2_isFull 15 = .ok (.ireturn, 1) := by decide +kernel
theorem dX2_add_0 : decode cX2_add 0 = .ok (.aload_n 0, 1) := by decide +kernel
theorem dX2_add_1 : decode cX2_add 1 = .ok (.getfield 18, 3) := by decide +kernel
theorem dX2_add_4 : decode cX2_add 4 = .ok (.istore_n 3, 1) := by decide +kernel
theorem dX2_add_5 : decode cX2_add 5 = .ok (.iload_n 3, 1) := by decide +kernel
theorem dX2_add_6 : decode cX2_add 6 = .ok (.ifCond .lt 42, 3) := by decide +kernel
theorem dX2_add_9 : decode cX2_add 9 = .ok (.iload_n 3, 1) := by decide +kernel
theorem dX2_add_10 : decode cX2_add 10 = .ok (.aload_n 0, 1) := by decide +kernel
theorem dX2_add_11 : decode cX2_add 11 = .ok (.getfield 9, 3) := by decide +kernel
theorem dX2_add_14 : decode cX2_add 14 = .ok (.arraylength, 1) := by decide +kernel
theorem dX2_add_15 : decode cX2_add 15 = .ok (.if_icmp .ge 33, 3) := by decide +kernel
theorem dX2_add_18 : decode cX2_add 18 = .ok (.iload_n 3, 1) := by decide +kernel
theorem dX2_add_19 : decode cX2_add 19 = .ok (.aload_n 0, 1) := by decide +kernel
theorem dX2_add_20 : decode cX2_add 20 = .ok (.getfield 15, 3) := by decide +kernel
theorem dX2_add_23 : decode cX2_add 23 = .ok (.arraylength, 1) := by decide +kernel
theorem dX2_add_24 : decode cX2_add 24 = .ok (.if_icmp .ge 24, 3) := by decide +kernel
theorem dX2_add_27 : decode cX2_add 27 = .ok (.aload_n 0, 1) := by decide +kernel
theorem dX2_add_28 : decode cX2_add 28 = .ok (.getfield 9, 3) := by decide +kernel
theorem dX2_add_31 : decode cX2_add 31 = .ok (.iload_n 3, 1) := by decide +kernel
theorem dX2_add_32 : decode cX2_add 32 = .ok (.iload_n 1, 1) := by decide +kernel
theorem dX2_add_33 : decode cX2_add 33 = .ok (.iastore, 1) := by decide +kernel
theorem dX2_add_34 : decode cX2_add 34 = .ok (.aload_n 0, 1) := by decide +kernel
theorem dX2_add_35 : decode cX2_add 35 = .ok (.getfield 15, 3) := by decide +kernel
theorem dX2_add_38 : decode cX2_add 38 = .ok (.iload_n 3, 1) := by decide +kernel
theorem dX2_add_39 : decode cX2_add 39 = .ok (.iload_n 2, 1) := by decide +kernel
theorem dX2_add_40 : decode cX2_add 40 = .ok (.iastore, 1) := by decide +kernel
theorem dX2_add_41 : decode cX2_add 41 = .ok (.aload_n 0, 1) := by decide +kernel
theorem dX2_add_42 : decode cX2_add 42 = .ok (.iload_n 3, 1) := by decide +kernel
theorem dX2_add_43 : decode cX2_add 43 = .ok (.iconst 1, 1) := by decide +kernel
theorem dX2_add_44 : decode cX2_add 44 = .ok (.iadd, 1) := by decide +kernel
theorem dX2_add_45 : decode cX2_add 45 = .ok (.putfield 18, 3) := by decide +kernel
theorem dX2_add_48 : decode cX2_add 48 = .ok (.iload_n 3, 1) := by decide +kernel
theorem dX2_add_49 : decode cX2_add 49 = .ok (.ireturn, 1) := by decide +kernel
theorem dX2_cell_0 : decode cX2_cell 0 = .ok (.iload_n 1, 1) := by decide +kernel
theorem dX2_cell_1 : decode cX2_cell 1 = .ok (.ifCond .lt 21, 3) := by decide +kernel
theorem dX2_cell_4 : decode cX2_cell 4 = .ok (.iload_n 1, 1) := by decide +kernel
theorem dX2_cell_5 : decode cX2_cell 5 = .ok (.aload_n 0, 1) := by decide +kernel
theorem dX2_cell_6 : decode cX2_cell 6 = .ok (.getfield 9, 3) := by decide +kernel
theorem dX2_cell_9 : decode cX2_cell 9 = .ok (.arraylength, 1) := by decide +kernel
theorem dX2_cell_10 : decode cX2_cell 10 = .ok (.if_icmp .ge 12, 3) := by decide +kernel
theorem dX2_cell_13 : decode cX2_cell 13 = .ok (.aload_n 0, 1) := by decide +kernel
theorem dX2_cell_14 : decode cX2_cell 14 = .ok (.getfield 9, 3) := by decide +kernel
theorem dX2_cell_17 : decode cX2_cell 17 = .ok (.iload_n 1, 1) := by decide +kernel
theorem dX2_cell_18 : decode cX2_cell 18 = .ok (.iaload, 1) := by decide +kernel
theorem dX2_cell_19 : decode cX2_cell 19 = .ok (.goto 4, 3) := by decide +kernel
theorem dX2_cell_22 : decode cX2_cell 22 = .ok (.iconst 0, 1) := by decide +kernel
theorem dX2_cell_23 : decode cX2_cell 23 = .ok (.ireturn, 1) := by decide +kernel
theorem dX2_newValue_0 : decode cX2_newValue 0 = .ok (.iload_n 1, 1) := by decide +kernel
theorem dX2_newValue_1 : decode cX2_newValue 1 = .ok (.ifCond .lt 21, 3) := by decide +kernel
theorem dX2_newValue_4 : decode cX2_newValue 4 = .ok (.iload_n 1, 1) := by decide +kernel
theorem dX2_newValue_5 : decode cX2_newValue 5 = .ok (.aload_n 0, 1) := by decide +kernel
theorem dX2_newValue_6 : decode cX2_newValue 6 = .ok (.getfield 15, 3) := by decide +kernel
theorem dX2_newValue_9 : decode cX2_newValue 9 = .ok (.arraylength, 1) := by decide +kernel
theorem dX2_newValue_10 : decode cX2_newValue 10 = .ok (.if_icmp .ge 12, 3) := by decide +kernel
theorem dX2_newValue_13 : decode cX2_newValue 13 = .ok (.aload_n 0, 1) := by decide +kernel
theorem dX2_newValue_14 : decode cX2_newValue 14 = .ok (.getfield 15, 3) := by decide +kernel
theorem dX2_newValue_17 : decode cX2_newValue 17 = .ok (.iload_n 1, 1) := by decide +kernel
theorem dX2_newValue_18 : decode cX2_newValue 18 = .ok (.iaload, 1) := by decide +kernel
theorem dX2_newValue_19 : decode cX2_newValue 19 = .ok (.goto 4, 3) := by decide +kernel
theorem dX2_newValue_22 : decode cX2_newValue 22 = .ok (.iconst (-1), 1) := by decide +kernel
theorem dX2_newValue_23 : decode cX2_newValue 23 = .ok (.ireturn, 1) := by decide +kernel
theorem dX2_copyFrom_0 : decode cX2_copyFrom 0 = .ok (.aload_n 1, 1) := by decide +kernel
theorem dX2_copyFrom_1 : decode cX2_copyFrom 1 = .ok (.getfield 18, 3) := by decide +kernel
theorem dX2_copyFrom_4 : decode cX2_copyFrom 4 = .ok (.istore_n 2, 1) := by decide +kernel
theorem dX2_copyFrom_5 : decode cX2_copyFrom 5 = .ok (.iload_n 2, 1) := by decide +kernel
theorem dX2_copyFrom_6 : decode cX2_copyFrom 6 = .ok (.ifCond .lt 72, 3) := by decide +kernel
theorem dX2_copyFrom_9 : decode cX2_copyFrom 9 = .ok (.iload_n 2, 1) := by decide +kernel
theorem dX2_copyFrom_10 : decode cX2_copyFrom 10 = .ok (.aload_n 0, 1) := by decide +kernel
theorem dX2_copyFrom_11 : decode cX2_copyFrom 11 = .ok (.getfield 9, 3) := by decide +kernel
theorem dX2_copyFrom_14 : decode cX2_copyFrom 14 = .ok (.arraylength, 1) := by decide +kernel
theorem dX2_copyFrom_15 : decode cX2_copyFrom 15 = .ok (.if_icmp .gt 63, 3) := by decide +kernel
theorem dX2_copyFrom_18 : decode cX2_copyFrom 18 = .ok (.iload_n 2, 1) := by decide +kernel
theorem dX2_copyFrom_19 : decode cX2_copyFrom 19 = .ok (.aload_n 0, 1) := by decide +kernel
theorem dX2_copyFrom_20 : decode cX2_copyFrom 20 = .ok (.getfield 15, 3) := by decide +kernel
theorem dX2_copyFrom_23 : decode cX2_copyFrom 23 = .ok (.arraylength, 1) := by decide +kernel
theorem dX2_copyFrom_24 : decode cX2_copyFrom 24 = .ok (.if_icmp .gt 54, 3) := by decide +kernel
theorem dX2_copyFrom_27 : decode cX2_copyFrom 27 = .ok (.iload_n 2, 1) := by decide +kernel
theorem dX2_copyFrom_28 : decode cX2_copyFrom 28 = .ok (.aload_n 1, 1) := by decide +kernel
theorem dX2_copyFrom_29 : decode cX2_copyFrom 29 = .ok (.getfield 9, 3) := by decide +kernel
theorem dX2_copyFrom_32 : decode cX2_copyFrom 32 = .ok (.arraylength, 1) := by decide +kernel
theorem dX2_copyFrom_33 : decode cX2_copyFrom 33 = .ok (.if_icmp .gt 45, 3) := by decide +kernel
theorem dX2_copyFrom_36 : decode cX2_copyFrom 36 = .ok (.iload_n 2, 1) := by decide +kernel
theorem dX2_copyFrom_37 : decode cX2_copyFrom 37 = .ok (.aload_n 1, 1) := by decide +kernel
theorem dX2_copyFrom_38 : decode cX2_copyFrom 38 = .ok (.getfield 15, 3) := by decide +kernel
theorem dX2_copyFrom_41 : decode cX2_copyFrom 41 = .ok (.arraylength, 1) := by decide +kernel
theorem dX2_copyFrom_42 : decode cX2_copyFrom 42 = .ok (.if_icmp .gt 36, 3) := by decide +kernel
theorem dX2_copyFrom_45 : decode cX2_copyFrom 45 = .ok (.aload_n 1, 1) := by decide +kernel
theorem dX2_copyFrom_46 : decode cX2_copyFrom 46 = .ok (.getfield 9, 3) := by decide +kernel
theorem dX2_copyFrom_49 : decode cX2_copyFrom 49 = .ok (.iconst 0, 1) := by decide +kernel
theorem dX2_copyFrom_50 : decode cX2_copyFrom 50 = .ok (.aload_n 0, 1) := by decide +kernel
theorem dX2_copyFrom_51 : decode cX2_copyFrom 51 = .ok (.getfield 9, 3) := by decide +kernel
theorem dX2_copyFrom_54 : decode cX2_copyFrom 54 = .ok (.iconst 0, 1) := by decide +kernel
theorem dX2_copyFrom_55 : decode cX2_copyFrom 55 = .ok (.iload_n 2, 1) := by decide +kernel
theorem dX2_copyFrom_56 : decode cX2_copyFrom 56 = .ok (.invokestatic 29, 3) := by decide +kernel
theorem dX2_copyFrom_59 : decode cX2_copyFrom 59 = .ok (.aload_n 1, 1) := by decide +kernel
theorem dX2_copyFrom_60 : decode cX2_copyFrom 60 = .ok (.getfield 15, 3) := by decide +kernel
theorem dX2_copyFrom_63 : decode cX2_copyFrom 63 = .ok (.iconst 0, 1) := by decide +kernel
theorem dX2_copyFrom_64 : decode cX2_copyFrom 64 = .ok (.aload_n 0, 1) := by decide +kernel
theorem dX2_copyFrom_65 : decode cX2_copyFrom 65 = .ok (.getfield 15, 3) := by decide +kernel
theorem dX2_copyFrom_68 : decode cX2_copyFrom 68 = .ok (.iconst 0, 1) := by decide +kernel
theorem dX2_copyFrom_69 : decode cX2_copyFrom 69 = .ok (.iload_n 2, 1) := by decide +kernel
theorem dX2_copyFrom_70 : decode cX2_copyFrom 70 = .ok (.invokestatic 29, 3) := by decide +kernel
theorem dX2_copyFrom_73 : decode cX2_copyFrom 73 = .ok (.aload_n 0, 1) := by decide +kernel
theorem dX2_copyFrom_74 : decode cX2_copyFrom 74 = .ok (.iload_n 2, 1) := by decide +kernel
theorem dX2_copyFrom_75 : decode cX2_copyFrom 75 = .ok (.putfield 18, 3) := by decide +kernel
theorem dX2_copyFrom_78 : decode cX2_copyFrom 78 = .ok (.return_, 1) := by decide +kernel
theorem dX3_init_0 : decode cX3_init 0 = .ok (.aload_n 0, 1) := by decide +kernel
theorem dX3_init_1 : decode cX3_init 1 = .ok (.invokespecial 3, 3) := by decide +kernel
theorem dX3_init_4 : decode cX3_init 4 = .ok (.aload_n 0, 1) := by decide +kernel
theorem dX3_init_5 : decode cX3_init 5 = .ok (.new 9, 3) := by decide +kernel
theorem dX3_init_8 : decode cX3_init 8 = .ok (.dup, 1) := by decide +kernel
theorem dX3_init_9 : decode cX3_init 9 = .ok (.invokespecial 11, 3) := by decide +kernel
theorem dX3_init_12 : decode cX3_init 12 = .ok (.putfield 12, 3) := by decide +kernel
theorem dX3_init_15 : decode cX3_init 15 = .ok (.aload_n 0, 1) := by decide +kernel
theorem dX3_init_16 : decode cX3_init 16 = .ok (.iconst (-1), 1) := by decide +kernel
theorem dX3_init_17 : decode cX3_init 17 = .ok (.putfield 18, 3) := by decide +kernel
theorem dX3_init_20 : decode cX3_init 20 = .ok (.return_, 1) := by decide +kernel
theorem dX3_read_0 : decode cX3_read 0 = .ok (.aload_n 0, 1) := by decide +kernel
theorem dX3_read_1 : decode cX3_read 1 = .ok (.iconst 0, 1) := by decide +kernel
theorem dX3_read_2 : decode cX3_read 2 = .ok (.putfield 22, 3) := by decide +kernel
theorem dX3_read_5 : decode cX3_read 5 = .ok (.aload_n 0, 1) := by decide +kernel
theorem dX3_read_6 : decode cX3_read 6 = .ok (.iconst (-1), 1) := by decide +kernel
theorem dX3_read_7 : decode cX3_read 7 = .ok (.putfield 18, 3) := by decide +kernel
theorem dX3_read_10 : decode cX3_read 10 = .ok (.aload_n 0, 1) := by decide +kernel
theorem dX3_read_11 : decode cX3_read 11 = .ok (.aload_n 0, 1) := by decide +kernel
theorem dX3_read_12 : decode cX3_read 12 = .ok (.invokevirtual 25, 3) := by decide +kernel
theorem dX3_read_15 : decode cX3_read 15 = .ok (.putfield 29, 3) := by decide +kernel
theorem dX3_read_18 : decode cX3_read 18 = .ok (.aload_n 0, 1) := by decide +kernel
theorem dX3_read_19 : decode cX3_read 19 = .ok (.aload_n 0, 1) := by decide +kernel
theorem dX3_read_20 : decode cX3_read 20 = .ok (.getfield 29, 3) := by decide +kernel
theorem dX3_read_23 : decode cX3_read 23 = .ok (.iconst 3, 1) := by decide +kernel
theorem dX3_read_24 : decode cX3_read 24 = .ok (.if_icmp .eq 11, 3) := by decide +kernel
theorem dX3_read_27 : decode cX3_read 27 = .ok (.aload_n 0, 1) := by decide +kernel
theorem dX3_read_28 : decode cX3_read 28 = .ok (.getfield 29, 3) := by decide +kernel
theorem dX3_read_31 : decode cX3_read 31 = .ok (.iconst 4, 1) := by decide +kernel
theorem dX3_read_32 : decode cX3_read 32 = .ok (.if_icmp .ne 7, 3) := by decide +kernel
theorem dX3_read_35 : decode cX3_read 35 = .ok (.iconst 0, 1) := by decide +kernel
theorem dX3_read_36 : decode cX3_read 36 = .ok (.goto 7, 3) := by decide +kernel
theorem dX3_read_39 : decode cX3_read 39 = .ok (.aload_n 0, 1) := by decide +kernel
theorem dX3_read_40 : decode cX3_read 40 = .ok (.invokevirtual 32, 3) := by decide +kernel
theorem dX3_read_43 : decode cX3_read 43 = .ok (.putfield 35, 3) := by decide +kernel
theorem dX3_read_46 : decode cX3_read 46 = .ok (.aload_n 0, 1) := by decide +kernel
theorem dX3_read_47 : decode cX3_read 47 = .ok (.aload_n 0, 1) := by decide +kernel
theorem dX3_read_48 : decode cX3_read 48 = .ok (.invokevirtual 38, 3) := by decide +kernel
theorem dX3_read_51 : decode cX3_read 51 = .ok (.putfield 41, 3) := by decide +kernel
theorem dX3_read_54 : decode cX3_read 54 = .ok (.aload_n 0, 1) := by decide +kernel
theorem dX3_read_55 : decode cX3_read 55 = .ok (.getfield 29, 3) := by decide +kernel
theorem dX3_read_58 : decode cX3_read 58 = .ok (.iconst 4, 1) := by decide +kernel
theorem dX3_read_59 : decode cX3_read 59 = .ok (.if_icmp .eq 7, 3) := by decide +kernel
theorem dX3_read_62 : decode cX3_read 62 = .ok (.aload_n 0, 1) := by decide +kernel
theorem dX3_read_63 : decode cX3_read 63 = .ok (.invokevirtual 44, 3) := by decide +kernel
theorem dX3_read_66 : decode cX3_read 66 = .ok (.aload_n 0, 1) := by decide +kernel
theorem dX3_read_67 : decode cX3_read 67 = .ok (.aload_n 0, 1) := by decide +kernel
theorem dX3_read_68 : decode cX3_read 68 = .ok (.invokevirtual 38, 3) := by decide +kernel
theorem dX3_read_71 : decode cX3_read 71 = .ok (.putfield 47, 3) := by decide +kernel
theorem dX3_read_74 : decode cX3_read 74 = .ok (.aload_n 0, 1) := by decide +kernel
theorem dX3_read_75 : decode cX3_read 75 = .ok (.invokevirtual 50, 3) := by decide +kernel
theorem dX3_read_78 : decode cX3_read 78 = .ok (.return_, 1) := by decide +kernel
theorem dX3_hasFault_0 : decode cX3_hasFault 0 = .ok (.aload_n 0, 1) := by decide +kernel
theorem dX3_hasFault_1 : decode cX3_hasFault 1 = .ok (.getfield 18, 3) := by decide +kernel
theorem dX3_hasFault_4 : decode cX3_hasFault 4 = .ok (.iconst (-1), 1) := by decide +kernel
theorem dX3_hasFault_5 : decode cX3_hasFault 5 = .ok (.if_icmp .eq 7, 3) := by decide +kernel
theorem dX3_hasFault_8 : decode cX3_hasFault 8 = .ok (.iconst 1, 1) := by decide +kernel
theorem dX3_hasFault_9 : decode cX3_hasFault 9 = .ok (.goto 4, 3) := by decide +kernel
theorem dX3_hasFault_12 : decode cX3_hasFault 12 = .ok (.iconst 0, 1) := by decide +kernel
theorem dX3_hasFault_13 : decode cX3_hasFault 13 = .ok (.ireturn, 1) := by decide +kernel
theorem dX3_readKind_0 : decode cX3_readKind 0 = .ok (.aload_n 0, 1) := by decide +kernel
theorem dX3_readKind_1 : decode cX3_readKind 1 = .ok (.invokevirtual 53, 3) := by decide +kernel
theorem dX3_readKind_4 : decode cX3_readKind 4 = .ok (.iconst 0, 1) := by decide +kernel
theorem dX3_readKind_5 : decode cX3_readKind 5 = .ok (.istore_n 1, 1) := by decide +kernel
theorem dX3_readKind_6 : decode cX3_readKind 6 = .ok (.iload_n 1, 1) := by decide +kernel
theorem dX3_readKind_7 : decode cX3_readKind 7 = .ok (.iconst 5, 1) := by decide +kernel
theorem dX3_readKind_8 : decode cX3_readKind 8 = .ok (.if_icmp .ge 22, 3) := by decide +kernel
theorem dX3_readKind_11 : decode cX3_readKind 11 = .ok (.aload_n 0, 1) := by decide +kernel
theorem dX3_readKind_12 : decode cX3_readKind 12 = .ok (.iload_n 1, 1) := by decide +kernel
theorem dX3_readKind_13 : decode cX3_readKind 13 = .ok (.invokestatic 56, 3) := by decide +kernel
theorem dX3_readKind_16 : decode cX3_readKind 16 = .ok (.invokevirtual 60, 3) := by decide +kernel
theorem dX3_readKind_19 : decode cX3_readKind 19 = .ok (.ifCond .eq 5, 3) := by decide +kernel
theorem dX3_readKind_22 : decode cX3_readKind 22 = .ok (.iload_n 1, 1) := by decide +kernel
theorem dX3_readKind_23 : decode cX3_readKind 23 = .ok (.ireturn, 1) := by decide +kernel
theorem dX3_readKind_24 : decode cX3_readKind 24 = .ok (.iinc 1 1, 3) := by decide +kernel
theorem dX3_readKind_27 : decode cX3_readKind 27 = .ok (.goto (-21), 3) := by decide +kernel
theorem dX3_readKind_30 : decode cX3_readKind 30 = .ok (.aload_n 0, 1) := by decide +kernel
theorem dX3_readKind_31 : decode cX3_readKind 31 = .ok (.invokevirtual 64, 3) := by decide +kernel
theorem dX3_readKind_34 : decode cX3_readKind 34 = .ok (.iconst 0, 1) := by decide +kernel
theorem dX3_readKind_35 : decode cX3_readKind 35 = .ok (.ireturn, 1) := by decide +kernel
theorem dX3_readTable_0 : decode cX3_readTable 0 = .ok (.aload_n 0, 1) := by decide +kernel
theorem dX3_readTable_1 : decode cX3_readTable 1 = .ok (.invokevirtual 53, 3) := by decide +kernel
theorem dX3_readTable_4 : decode cX3_readTable 4 = .ok (.aload_n 0, 1) := by decide +kernel
theorem dX3_readTable_5 : decode cX3_readTable 5 = .ok (.ldc 67, 2) := by decide +kernel
theorem dX3_readTable_7 : decode cX3_readTable 7 = .ok (.invokevirtual 60, 3) := by decide +kernel
theorem dX3_readTable_10 : decode cX3_readTable 10 = .ok (.ifCond .eq 5, 3) := by decide +kernel
theorem dX3_readTable_13 : decode cX3_readTable 13 = .ok (.iconst 0, 1) := by decide +kernel
theorem dX3_readTable_14 : decode cX3_readTable 14 = .ok (.ireturn, 1) := by decide +kernel
theorem dX3_readTable_15 : decode cX3_readTable 15 = .ok (.aload_n 0, 1) := by decide +kernel
theorem dX3_readTable_16 : decode cX3_readTable 16 = .ok (.ldc 69, 2) := by decide +kernel
theorem dX3_readTable_18 : decode cX3_readTable 18 = .ok (.invokevirtual 60, 3) := by decide +kernel
theorem dX3_readTable_21 : decode cX3_readTable 21 = .ok (.ifCond .ne 7, 3) := by decide +kernel
theorem dX3_readTable_24 : decode cX3_readTable 24 = .ok (.aload_n 0, 1) := by decide +kernel
theorem dX3_readTable_25 : decode cX3_readTable 25 = .ok (.invokevirtual 64, 3) := by decide +kernel
theorem dX3_readTable_28 : decode cX3_readTable 28 = .ok (.iconst 1, 1) := by decide +kernel
theorem dX3_readTable_29 : decode cX3_readTable 29 = .ok (.ireturn, 1) := by decide +kernel
theorem dX3_readNumber_0 : decode cX3_readNumber 0 = .ok (.aload_n 0, 1) := by decide +kernel
theorem dX3_readNumber_1 : decode cX3_readNumber 1 = .ok (.invokevirtual 53, 3) := by decide +kernel
theorem dX3_readNumber_4 : decode cX3_readNumber 4 = .ok (.aload_n 0, 1) := by decide +kernel
theorem dX3_readNumber_5 : decode cX3_readNumber 5 = .ok (.getfield 22, 3) := by decide +kernel
theorem dX3_readNumber_8 : decode cX3_readNumber 8 = .ok (.aload_n 0, 1) := by decide +kernel
theorem dX3_readNumber_9 : decode cX3_readNumber 9 = .ok (.getfield 71, 3) := by decide +kernel
theorem dX3_readNumber_12 : decode cX3_readNumber 12 = .ok (.isub, 1) := by decide +kernel
theorem dX3_readNumber_13 : decode cX3_readNumber 13 = .ok (.istore_n 1, 1) := by decide +kernel
theorem dX3_readNumber_14 : decode cX3_readNumber 14 = .ok (.aload_n 0, 1) := by decide +kernel
theorem dX3_readNumber_15 : decode cX3_readNumber 15 = .ok (.getfield 12, 3) := by decide +kernel
theorem dX3_readNumber_18 : decode cX3_readNumber 18 = .ok (.aload_n 0, 1) := by decide +kernel
theorem dX3_readNumber_19 : decode cX3_readNumber 19 = .ok (.getfield 71, 3) := by decide +kernel
theorem dX3_readNumber_22 : decode cX3_readNumber 22 = .ok (.invokevirtual 74, 3) := by decide +kernel
theorem dX3_readNumber_25 : decode cX3_readNumber 25 = .ok (.istore_n 2, 1) := by decide +kernel
theorem dX3_readNumber_26 : decode cX3_readNumber 26 = .ok (.iload_n 2, 1) := by decide +kernel
theorem dX3_readNumber_27 : decode cX3_readNumber 27 = .ok (.invokestatic 78, 3) := by decide +kernel
theorem dX3_readNumber_30 : decode cX3_readNumber 30 = .ok (.ifCond .eq 19, 3) := by decide +kernel
theorem dX3_readNumber_33 : decode cX3_readNumber 33 = .ok (.iload_n 1, 1) := by decide +kernel
theorem dX3_readNumber_34 : decode cX3_readNumber 34 = .ok (.iconst 2, 1) := by decide +kernel
theorem dX3_readNumber_35 : decode cX3_readNumber 35 = .ok (.if_icmp .gt 14, 3) := by decide +kernel
theorem dX3_readNumber_38 : decode cX3_readNumber 38 = .ok (.iload_n 1, 1) := by decide +kernel
theorem dX3_readNumber_39 : decode cX3_readNumber 39 = .ok (.iconst 2, 1) := by decide +kernel
theorem dX3_readNumber_40 : decode cX3_readNumber 40 = .ok (.if_icmp .ne 15, 3) := by decide +kernel
theorem dX3_readNumber_43 : decode cX3_readNumber 43 = .ok (.iload_n 2, 1) := by decide +kernel
theorem dX3_readNumber_44 : decode cX3_readNumber 44 = .ok (.bipush 48, 2) := by decide +kernel
theorem dX3_readNumber_46 : decode cX3_readNumber 46 = .ok (.if_icmp .ne 9, 3) := by decide +kernel
theorem dX3_readNumber_49 : decode cX3_readNumber 49 = .ok (.aload_n 0, 1) := by decide +kernel
theorem dX3_readNumber_50 : decode cX3_readNumber 50 = .ok (.invokevirtual 64, 3) := by decide +kernel
theorem dX3_readNumber_53 : decode cX3_readNumber 53 = .ok (.iconst 0, 1) := by decide +kernel
theorem dX3_readNumber_54 : decode cX3_readNumber 54 = .ok (.ireturn, 1) := by decide +kernel
theorem dX3_readNumber_55 : decode cX3_readNumber 55 = .ok (.iload_n 2, 1) := by decide +kernel
theorem dX3_readNumber_56 : decode cX3_readNumber 56 = .ok (.bipush 48, 2) := by decide +kernel
theorem dX3_readNumber_58 : decode cX3_readNumber 58 = .ok (.isub, 1) := by decide +kernel
theorem dX3_readNumber_59 : decode cX3_readNumber 59 = .ok (.istore_n 3, 1) := by decide +kernel
theorem dX3_readNumber_60 : decode cX3_readNumber 60 = .ok (.iload_n 1, 1) := by decide +kernel
theorem dX3_readNumber_61 : decode cX3_readNumber 61 = .ok (.iconst 1, 1) := by decide +kernel
theorem dX3_readNumber_62 : decode cX3_readNumber 62 = .ok (.if_icmp .ne 7, 3) := by decide +kernel
theorem dX3_readNumber_65 : decode cX3_readNumber 65 = .ok (.iload_n 3, 1) := by decide +kernel
theorem dX3_readNumber_66 : decode cX3_readNumber 66 = .ok (.goto 24, 3) := by decide +kernel
theorem dX3_readNumber_69 : decode cX3_readNumber 69 = .ok (.iload_n 3, 1) := by decide +kernel
theorem dX3_readNumber_70 : decode cX3_readNumber 70 = .ok (.bipush 10, 2) := by decide +kernel
theorem dX3_readNumber_72 : decode cX3_readNumber 72 = .ok (.imul, 1) := by decide +kernel
theorem dX3_readNumber_73 : decode cX3_readNumber 73 = .ok (.aload_n 0, 1) := by decide +kernel
theorem dX3_readNumber_74 : decode cX3_readNumber 74 = .ok (.getfield 12, 3) := by decide +kernel
theorem dX3_readNumber_77 : decode cX3_readNumber 77 = .ok (.aload_n 0, 1) := by decide +kernel
theorem dX3_readNumber_78 : decode cX3_readNumber 78 = .ok (.getfield 71, 3) := by decide +kernel
theorem dX3_readNumber_81 : decode cX3_readNumber 81 = .ok (.iconst 1, 1) := by decide +kernel
