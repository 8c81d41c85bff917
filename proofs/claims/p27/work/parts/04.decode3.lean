theorem dX9_set_2 : decode cX9_set 2 = .ok (.invokestatic 140, 3) := by decide +kernel
theorem dX9_set_5 : decode cX9_set 5 = .ok (.ifCond .ne 6, 3) := by decide +kernel
theorem dX9_set_8 : decode cX9_set 8 = .ok (.ldc 48, 2) := by decide +kernel
theorem dX9_set_10 : decode cX9_set 10 = .ok (.ireturn, 1) := by decide +kernel
theorem dX9_set_11 : decode cX9_set 11 = .ok (.aload_n 0, 1) := by decide +kernel
theorem dX9_set_12 : decode cX9_set 12 = .ok (.getfield 26, 3) := by decide +kernel
theorem dX9_set_15 : decode cX9_set 15 = .ok (.aload_n 0, 1) := by decide +kernel
theorem dX9_set_16 : decode cX9_set 16 = .ok (.getfield 19, 3) := by decide +kernel
theorem dX9_set_19 : decode cX9_set 19 = .ok (.invokevirtual 63, 3) := by decide +kernel
theorem dX9_set_22 : decode cX9_set 22 = .ok (.aload_n 0, 1) := by decide +kernel
theorem dX9_set_23 : decode cX9_set 23 = .ok (.getfield 19, 3) := by decide +kernel
theorem dX9_set_26 : decode cX9_set 26 = .ok (.getfield 49, 3) := by decide +kernel
theorem dX9_set_29 : decode cX9_set 29 = .ok (.iload_n 1, 1) := by decide +kernel
theorem dX9_set_30 : decode cX9_set 30 = .ok (.invokevirtual 143, 3) := by decide +kernel
theorem dX9_set_33 : decode cX9_set 33 = .ok (.istore_n 3, 1) := by decide +kernel
theorem dX9_set_34 : decode cX9_set 34 = .ok (.aload_n 0, 1) := by decide +kernel
theorem dX9_set_35 : decode cX9_set 35 = .ok (.getfield 19, 3) := by decide +kernel
theorem dX9_set_38 : decode cX9_set 38 = .ok (.getfield 49, 3) := by decide +kernel
theorem dX9_set_41 : decode cX9_set 41 = .ok (.iload_n 1, 1) := by decide +kernel
theorem dX9_set_42 : decode cX9_set 42 = .ok (.iload_n 2, 1) := by decide +kernel
theorem dX9_set_43 : decode cX9_set 43 = .ok (.invokevirtual 146, 3) := by decide +kernel
theorem dX9_set_46 : decode cX9_set 46 = .ok (.iload_n 3, 1) := by decide +kernel
theorem dX9_set_47 : decode cX9_set 47 = .ok (.ireturn, 1) := by decide +kernel
theorem dX9_grant_0 : decode cX9_grant 0 = .ok (.iload_n 1, 1) := by decide +kernel
theorem dX9_grant_1 : decode cX9_grant 1 = .ok (.iconst 1, 1) := by decide +kernel
theorem dX9_grant_2 : decode cX9_grant 2 = .ok (.if_icmp .lt 10, 3) := by decide +kernel
theorem dX9_grant_5 : decode cX9_grant 5 = .ok (.iload_n 1, 1) := by decide +kernel
theorem dX9_grant_6 : decode cX9_grant 6 = .ok (.sipush 999, 3) := by decide +kernel
theorem dX9_grant_9 : decode cX9_grant 9 = .ok (.if_icmp .le 6, 3) := by decide +kernel
theorem dX9_grant_12 : decode cX9_grant 12 = .ok (.ldc 48, 2) := by decide +kernel
theorem dX9_grant_14 : decode cX9_grant 14 = .ok (.ireturn, 1) := by decide +kernel
theorem dX9_grant_15 : decode cX9_grant 15 = .ok (.aload_n 0, 1) := by decide +kernel
theorem dX9_grant_16 : decode cX9_grant 16 = .ok (.getfield 19, 3) := by decide +kernel
theorem dX9_grant_19 : decode cX9_grant 19 = .ok (.getfield 49, 3) := by decide +kernel
theorem dX9_grant_22 : decode cX9_grant 22 = .ok (.astore_n 2, 1) := by decide +kernel
theorem dX9_grant_23 : decode cX9_grant 23 = .ok (.aload_n 2, 1) := by decide +kernel
theorem dX9_grant_24 : decode cX9_grant 24 = .ok (.getfield 150, 3) := by decide +kernel
theorem dX9_grant_27 : decode cX9_grant 27 = .ok (.iload_n 1, 1) := by decide +kernel
theorem dX9_grant_28 : decode cX9_grant 28 = .ok (.iadd, 1) := by decide +kernel
theorem dX9_grant_29 : decode cX9_grant 29 = .ok (.sipush 9999, 3) := by decide +kernel
theorem dX9_grant_32 : decode cX9_grant 32 = .ok (.if_icmp .le 6, 3) := by decide +kernel
theorem dX9_grant_35 : decode cX9_grant 35 = .ok (.ldc 62, 2) := by decide +kernel
theorem dX9_grant_37 : decode cX9_grant 37 = .ok (.ireturn, 1) := by decide +kernel
theorem dX9_grant_38 : decode cX9_grant 38 = .ok (.aload_n 0, 1) := by decide +kernel
theorem dX9_grant_39 : decode cX9_grant 39 = .ok (.getfield 26, 3) := by decide +kernel
theorem dX9_grant_42 : decode cX9_grant 42 = .ok (.aload_n 0, 1) := by decide +kernel
theorem dX9_grant_43 : decode cX9_grant 43 = .ok (.getfield 19, 3) := by decide +kernel
theorem dX9_grant_46 : decode cX9_grant 46 = .ok (.invokevirtual 63, 3) := by decide +kernel
theorem dX9_grant_49 : decode cX9_grant 49 = .ok (.aload_n 2, 1) := by decide +kernel
theorem dX9_grant_50 : decode cX9_grant 50 = .ok (.iload_n 1, 1) := by decide +kernel
theorem dX9_grant_51 : decode cX9_grant 51 = .ok (.invokevirtual 153, 3) := by decide +kernel
theorem dX9_grant_54 : decode cX9_grant 54 = .ok (.aload_n 2, 1) := by decide +kernel
theorem dX9_grant_55 : decode cX9_grant 55 = .ok (.getfield 150, 3) := by decide +kernel
theorem dX9_grant_58 : decode cX9_grant 58 = .ok (.ireturn, 1) := by decide +kernel
theorem dX9_tick_0 : decode cX9_tick 0 = .ok (.aload_n 0, 1) := by decide +kernel
theorem dX9_tick_1 : decode cX9_tick 1 = .ok (.getfield 19, 3) := by decide +kernel
theorem dX9_tick_4 : decode cX9_tick 4 = .ok (.getfield 49, 3) := by decide +kernel
theorem dX9_tick_7 : decode cX9_tick 7 = .ok (.astore_n 1, 1) := by decide +kernel
theorem dX9_tick_8 : decode cX9_tick 8 = .ok (.aload_n 1, 1) := by decide +kernel
theorem dX9_tick_9 : decode cX9_tick 9 = .ok (.getfield 150, 3) := by decide +kernel
theorem dX9_tick_12 : decode cX9_tick 12 = .ok (.aload_n 1, 1) := by decide +kernel
theorem dX9_tick_13 : decode cX9_tick 13 = .ok (.iconst 3, 1) := by decide +kernel
theorem dX9_tick_14 : decode cX9_tick 14 = .ok (.invokevirtual 143, 3) := by decide +kernel
theorem dX9_tick_17 : decode cX9_tick 17 = .ok (.iadd, 1) := by decide +kernel
theorem dX9_tick_18 : decode cX9_tick 18 = .ok (.sipush 9999, 3) := by decide +kernel
theorem dX9_tick_21 : decode cX9_tick 21 = .ok (.if_icmp .le 6, 3) := by decide +kernel
theorem dX9_tick_24 : decode cX9_tick 24 = .ok (.ldc 62, 2) := by decide +kernel
theorem dX9_tick_26 : decode cX9_tick 26 = .ok (.ireturn, 1) := by decide +kernel
theorem dX9_tick_27 : decode cX9_tick 27 = .ok (.aload_n 0, 1) := by decide +kernel
theorem dX9_tick_28 : decode cX9_tick 28 = .ok (.getfield 26, 3) := by decide +kernel
theorem dX9_tick_31 : decode cX9_tick 31 = .ok (.aload_n 0, 1) := by decide +kernel
theorem dX9_tick_32 : decode cX9_tick 32 = .ok (.getfield 19, 3) := by decide +kernel
theorem dX9_tick_35 : decode cX9_tick 35 = .ok (.invokevirtual 63, 3) := by decide +kernel
theorem dX9_tick_38 : decode cX9_tick 38 = .ok (.aload_n 1, 1) := by decide +kernel
theorem dX9_tick_39 : decode cX9_tick 39 = .ok (.invokevirtual 157, 3) := by decide +kernel
theorem dX9_tick_42 : decode cX9_tick 42 = .ok (.ireturn, 1) := by decide +kernel
theorem dX9_pay_0 : decode cX9_pay 0 = .ok (.aload_n 0, 1) := by decide +kernel
theorem dX9_pay_1 : decode cX9_pay 1 = .ok (.getfield 19, 3) := by decide +kernel
theorem dX9_pay_4 : decode cX9_pay 4 = .ok (.getfield 49, 3) := by decide +kernel
theorem dX9_pay_7 : decode cX9_pay 7 = .ok (.astore_n 3, 1) := by decide +kernel
theorem dX9_pay_8 : decode cX9_pay 8 = .ok (.aload_n 3, 1) := by decide +kernel
theorem dX9_pay_9 : decode cX9_pay 9 = .ok (.iload_n 1, 1) := by decide +kernel
theorem dX9_pay_10 : decode cX9_pay 10 = .ok (.invokevirtual 116, 3) := by decide +kernel
theorem dX9_pay_13 : decode cX9_pay 13 = .ok (.astore 4, 2) := by decide +kernel
theorem dX9_pay_15 : decode cX9_pay 15 = .ok (.aload 4, 2) := by decide +kernel
theorem dX9_pay_17 : decode cX9_pay 17 = .ok (.ifnull 15, 3) := by decide +kernel
theorem dX9_pay_20 : decode cX9_pay 20 = .ok (.iload_n 2, 1) := by decide +kernel
theorem dX9_pay_21 : decode cX9_pay 21 = .ok (.iconst 1, 1) := by decide +kernel
theorem dX9_pay_22 : decode cX9_pay 22 = .ok (.if_icmp .lt 10, 3) := by decide +kernel
theorem dX9_pay_25 : decode cX9_pay 25 = .ok (.iload_n 2, 1) := by decide +kernel
theorem dX9_pay_26 : decode cX9_pay 26 = .ok (.sipush 999, 3) := by decide +kernel
theorem dX9_pay_29 : decode cX9_pay 29 = .ok (.if_icmp .le 6, 3) := by decide +kernel
theorem dX9_pay_32 : decode cX9_pay 32 = .ok (.ldc 48, 2) := by decide +kernel
theorem dX9_pay_34 : decode cX9_pay 34 = .ok (.ireturn, 1) := by decide +kernel
theorem dX9_pay_35 : decode cX9_pay 35 = .ok (.aload 4, 2) := by decide +kernel
theorem dX9_pay_37 : decode cX9_pay 37 = .ok (.getfield 161, 3) := by decide +kernel
theorem dX9_pay_40 : decode cX9_pay 40 = .ok (.ifCond .ne 10, 3) := by decide +kernel
theorem dX9_pay_43 : decode cX9_pay 43 = .ok (.aload_n 3, 1) := by decide +kernel
theorem dX9_pay_44 : decode cX9_pay 44 = .ok (.getfield 150, 3) := by decide +kernel
theorem dX9_pay_47 : decode cX9_pay 47 = .ok (.ifCond .ne 6, 3) := by decide +kernel
theorem dX9_pay_50 : decode cX9_pay 50 = .ok (.ldc 124, 2) := by decide +kernel
theorem dX9_pay_52 : decode cX9_pay 52 = .ok (.ireturn, 1) := by decide +kernel
theorem dX9_pay_53 : decode cX9_pay 53 = .ok (.aload_n 0, 1) := by decide +kernel
theorem dX9_pay_54 : decode cX9_pay 54 = .ok (.getfield 26, 3) := by decide +kernel
theorem dX9_pay_57 : decode cX9_pay 57 = .ok (.aload_n 0, 1) := by decide +kernel
theorem dX9_pay_58 : decode cX9_pay 58 = .ok (.getfield 19, 3) := by decide +kernel
theorem dX9_pay_61 : decode cX9_pay 61 = .ok (.invokevirtual 63, 3) := by decide +kernel
theorem dX9_pay_64 : decode cX9_pay 64 = .ok (.aload_n 3, 1) := by decide +kernel
theorem dX9_pay_65 : decode cX9_pay 65 = .ok (.aload 4, 2) := by decide +kernel
theorem dX9_pay_67 : decode cX9_pay 67 = .ok (.iload_n 2, 1) := by decide +kernel
theorem dX9_pay_68 : decode cX9_pay 68 = .ok (.invokevirtual 164, 3) := by decide +kernel
theorem dX9_pay_71 : decode cX9_pay 71 = .ok (.ireturn, 1) := by decide +kernel
theorem dX9_found_0 : decode cX9_found 0 = .ok (.aload_n 0, 1) := by decide +kernel
theorem dX9_found_1 : decode cX9_found 1 = .ok (.getfield 19, 3) := by decide +kernel
theorem dX9_found_4 : decode cX9_found 4 = .ok (.getfield 49, 3) := by decide +kernel
theorem dX9_found_7 : decode cX9_found 7 = .ok (.astore_n 2, 1) := by decide +kernel
theorem dX9_found_8 : decode cX9_found 8 = .ok (.aload_n 2, 1) := by decide +kernel
theorem dX9_found_9 : decode cX9_found 9 = .ok (.iload_n 1, 1) := by decide +kernel
theorem dX9_found_10 : decode cX9_found 10 = .ok (.invokevirtual 116, 3) := by decide +kernel
theorem dX9_found_13 : decode cX9_found 13 = .ok (.astore_n 3, 1) := by decide +kernel
theorem dX9_found_14 : decode cX9_found 14 = .ok (.aload_n 3, 1) := by decide +kernel
theorem dX9_found_15 : decode cX9_found 15 = .ok (.ifnonnull 6, 3) := by decide +kernel
theorem dX9_found_18 : decode cX9_found 18 = .ok (.ldc 48, 2) := by decide +kernel
theorem dX9_found_20 : decode cX9_found 20 = .ok (.ireturn, 1) := by decide +kernel
theorem dX9_found_21 : decode cX9_found 21 = .ok (.aload_n 2, 1) := by decide +kernel
theorem dX9_found_22 : decode cX9_found 22 = .ok (.aload_n 3, 1) := by decide +kernel
theorem dX9_found_23 : decode cX9_found 23 = .ok (.invokevirtual 171, 3) := by decide +kernel
theorem dX9_found_26 : decode cX9_found 26 = .ok (.istore 4, 2) := by decide +kernel
theorem dX9_found_28 : decode cX9_found 28 = .ok (.aload_n 3, 1) := by decide +kernel
theorem dX9_found_29 : decode cX9_found 29 = .ok (.getfield 161, 3) := by decide +kernel
theorem dX9_found_32 : decode cX9_found 32 = .ok (.ifCond .eq 12, 3) := by decide +kernel
theorem dX9_found_35 : decode cX9_found 35 = .ok (.aload_n 2, 1) := by decide +kernel
theorem dX9_found_36 : decode cX9_found 36 = .ok (.getfield 150, 3) := by decide +kernel
theorem dX9_found_39 : decode cX9_found 39 = .ok (.iload 4, 2) := by decide +kernel
theorem dX9_found_41 : decode cX9_found 41 = .ok (.if_icmp .ge 6, 3) := by decide +kernel
theorem dX9_found_44 : decode cX9_found 44 = .ok (.ldc 124, 2) := by decide +kernel
theorem dX9_found_46 : decode cX9_found 46 = .ok (.ireturn, 1) := by decide +kernel
theorem dX9_found_47 : decode cX9_found 47 = .ok (.aload_n 0, 1) := by decide +kernel
theorem dX9_found_48 : decode cX9_found 48 = .ok (.getfield 26, 3) := by decide +kernel
theorem dX9_found_51 : decode cX9_found 51 = .ok (.aload_n 0, 1) := by decide +kernel
theorem dX9_found_52 : decode cX9_found 52 = .ok (.getfield 19, 3) := by decide +kernel
theorem dX9_found_55 : decode cX9_found 55 = .ok (.invokevirtual 63, 3) := by decide +kernel
theorem dX9_found_58 : decode cX9_found 58 = .ok (.aload_n 2, 1) := by decide +kernel
theorem dX9_found_59 : decode cX9_found 59 = .ok (.aload_n 3, 1) := by decide +kernel
theorem dX9_found_60 : decode cX9_found 60 = .ok (.iload 4, 2) := by decide +kernel
theorem dX9_found_62 : decode cX9_found 62 = .ok (.invokevirtual 175, 3) := by decide +kernel
theorem dX9_found_65 : decode cX9_found 65 = .ok (.iload 4, 2) := by decide +kernel
theorem dX9_found_67 : decode cX9_found 67 = .ok (.ireturn, 1) := by decide +kernel
theorem dX9_undo_0 : decode cX9_undo 0 = .ok (.aload_n 0, 1) := by decide +kernel
theorem dX9_undo_1 : decode cX9_undo 1 = .ok (.getfield 26, 3) := by decide +kernel
theorem dX9_undo_4 : decode cX9_undo 4 = .ok (.getfield 192, 3) := by decide +kernel
theorem dX9_undo_7 : decode cX9_undo 7 = .ok (.ifCond .ne 6, 3) := by decide +kernel
theorem dX9_undo_10 : decode cX9_undo 10 = .ok (.ldc 124, 2) := by decide +kernel
theorem dX9_undo_12 : decode cX9_undo 12 = .ok (.ireturn, 1) := by decide +kernel
theorem dX9_undo_13 : decode cX9_undo 13 = .ok (.aload_n 0, 1) := by decide +kernel
theorem dX9_undo_14 : decode cX9_undo 14 = .ok (.getfield 26, 3) := by decide +kernel
theorem dX9_undo_17 : decode cX9_undo 17 = .ok (.aload_n 0, 1) := by decide +kernel
theorem dX9_undo_18 : decode cX9_undo 18 = .ok (.getfield 19, 3) := by decide +kernel
theorem dX9_undo_21 : decode cX9_undo 21 = .ok (.invokevirtual 195, 3) := by decide +kernel
theorem dX9_undo_24 : decode cX9_undo 24 = .ok (.aload_n 0, 1) := by decide +kernel
theorem dX9_undo_25 : decode cX9_undo 25 = .ok (.getfield 26, 3) := by decide +kernel
theorem dX9_undo_28 : decode cX9_undo 28 = .ok (.getfield 192, 3) := by decide +kernel
theorem dX9_undo_31 : decode cX9_undo 31 = .ok (.ireturn, 1) := by decide +kernel
theorem dX9_append_0 : decode cX9_append 0 = .ok (.iload_n 1, 1) := by decide +kernel
theorem dX9_append_1 : decode cX9_append 1 = .ok (.iconst 1, 1) := by decide +kernel
theorem dX9_append_2 : decode cX9_append 2 = .ok (.if_icmp .lt 10, 3) := by decide +kernel
theorem dX9_append_5 : decode cX9_append 5 = .ok (.iload_n 1, 1) := by decide +kernel
theorem dX9_append_6 : decode cX9_append 6 = .ok (.sipush 255, 3) := by decide +kernel
theorem dX9_append_9 : decode cX9_append 9 = .ok (.if_icmp .le 6, 3) := by decide +kernel
theorem dX9_append_12 : decode cX9_append 12 = .ok (.ldc 48, 2) := by decide +kernel
theorem dX9_append_14 : decode cX9_append 14 = .ok (.ireturn, 1) := by decide +kernel
theorem dX9_append_15 : decode cX9_append 15 = .ok (.aload_n 0, 1) := by decide +kernel
theorem dX9_append_16 : decode cX9_append 16 = .ok (.getfield 12, 3) := by decide +kernel
theorem dX9_append_19 : decode cX9_append 19 = .ok (.getfield 100, 3) := by decide +kernel
theorem dX9_append_22 : decode cX9_append 22 = .ok (.invokevirtual 198, 3) := by decide +kernel
theorem dX9_append_25 : decode cX9_append 25 = .ok (.ifCond .eq 6, 3) := by decide +kernel
theorem dX9_append_28 : decode cX9_append 28 = .ok (.ldc 62, 2) := by decide +kernel
theorem dX9_append_30 : decode cX9_append 30 = .ok (.ireturn, 1) := by decide +kernel
theorem dX9_append_31 : decode cX9_append 31 = .ok (.aload_n 0, 1) := by decide +kernel
theorem dX9_append_32 : decode cX9_append 32 = .ok (.getfield 12, 3) := by decide +kernel
theorem dX9_append_35 : decode cX9_append 35 = .ok (.getfield 100, 3) := by decide +kernel
theorem dX9_append_38 : decode cX9_append 38 = .ok (.iload_n 1, 1) := by decide +kernel
theorem dX9_append_39 : decode cX9_append 39 = .ok (.invokevirtual 199, 3) := by decide +kernel
theorem dX9_append_42 : decode cX9_append 42 = .ok (.aload_n 0, 1) := by decide +kernel
theorem dX9_append_43 : decode cX9_append 43 = .ok (.getfield 12, 3) := by decide +kernel
theorem dX9_append_46 : decode cX9_append 46 = .ok (.getfield 100, 3) := by decide +kernel
theorem dX9_append_49 : decode cX9_append 49 = .ok (.getfield 201, 3) := by decide +kernel
theorem dX9_append_52 : decode cX9_append 52 = .ok (.ireturn, 1) := by decide +kernel
theorem dX9_clearText_0 : decode cX9_clearText 0 = .ok (.aload_n 0, 1) := by decide +kernel
theorem dX9_clearText_1 : decode cX9_clearText 1 = .ok (.getfield 12, 3) := by decide +kernel
theorem dX9_clearText_4 : decode cX9_clearText 4 = .ok (.getfield 100, 3) := by decide +kernel
theorem dX9_clearText_7 : decode cX9_clearText 7 = .ok (.getfield 201, 3) := by decide +kernel
theorem dX9_clearText_10 : decode cX9_clearText 10 = .ok (.istore_n 1, 1) := by decide +kernel
theorem dX9_clearText_11 : decode cX9_clearText 11 = .ok (.aload_n 0, 1) := by decide +kernel
theorem dX9_clearText_12 : decode cX9_clearText 12 = .ok (.getfield 12, 3) := by decide +kernel
theorem dX9_clearText_15 : decode cX9_clearText 15 = .ok (.getfield 100, 3) := by decide +kernel
theorem dX9_clearText_18 : decode cX9_clearText 18 = .ok (.invokevirtual 104, 3) := by decide +kernel
theorem dX9_clearText_21 : decode cX9_clearText 21 = .ok (.iload_n 1, 1) := by decide +kernel
theorem dX9_clearText_22 : decode cX9_clearText 22 = .ok (.ireturn, 1) := by decide +kernel
theorem dX9_count_0 : decode cX9_count 0 = .ok (.iload_n 1, 1) := by decide +kernel
theorem dX9_count_1 : decode cX9_count 1 = .ok (.ifCond .lt 9, 3) := by decide +kernel
theorem dX9_count_4 : decode cX9_count 4 = .ok (.iload_n 1, 1) := by decide +kernel
theorem dX9_count_5 : decode cX9_count 5 = .ok (.bipush 22, 2) := by decide +kernel
theorem dX9_count_7 : decode cX9_count 7 = .ok (.if_icmp .le 6, 3) := by decide +kernel
theorem dX9_count_10 : decode cX9_count 10 = .ok (.ldc 48, 2) := by decide +kernel
theorem dX9_count_12 : decode cX9_count 12 = .ok (.ireturn, 1) := by decide +kernel
theorem dX9_count_13 : decode cX9_count 13 = .ok (.aload_n 0, 1) := by decide +kernel
theorem dX9_count_14 : decode cX9_count 14 = .ok (.getfield 19, 3) := by decide +kernel
theorem dX9_count_17 : decode cX9_count 17 = .ok (.getfield 49, 3) := by decide +kernel
theorem dX9_count_20 : decode cX9_count 20 = .ok (.astore_n 2, 1) := by decide +kernel
theorem dX9_count_21 : decode cX9_count 21 = .ok (.iload_n 1, 1) := by decide +kernel
theorem dX9_count_22 : decode cX9_count 22 = .ok (.tableswitch 189 0 16 #[82, 90, 99, 104, 110, 116, 122, 127, 132, 137, 142, 147, 152, 157, 162, 170, 178], 82) := by decide +kernel
theorem dX9_count_104 : decode cX9_count 104 = .ok (.aload_n 2, 1) := by decide +kernel
theorem dX9_count_105 : decode cX9_count 105 = .ok (.getfield 52, 3) := by decide +kernel
theorem dX9_count_108 : decode cX9_count 108 = .ok (.getfield 183, 3) := by decide +kernel
theorem dX9_count_111 : decode cX9_count 111 = .ok (.ireturn, 1) := by decide +kernel
theorem dX9_count_112 : decode cX9_count 112 = .ok (.aload_n 2, 1) := by decide +kernel
theorem dX9_count_113 : decode cX9_count 113 = .ok (.iconst 0, 1) := by decide +kernel
theorem dX9_count_114 : decode cX9_count 114 = .ok (.invokevirtual 131, 3) := by decide +kernel
theorem dX9_count_117 : decode cX9_count 117 = .ok (.invokestatic 135, 3) := by decide +kernel
theorem dX9_count_120 : decode cX9_count 120 = .ok (.ireturn, 1) := by decide +kernel
theorem dX9_count_121 : decode cX9_count 121 = .ok (.aload_n 2, 1) := by decide +kernel
theorem dX9_count_122 : decode cX9_count 122 = .ok (.getfield 97, 3) := by decide +kernel
theorem dX9_count_125 : decode cX9_count 125 = .ok (.ireturn, 1) := by decide +kernel
theorem dX9_count_126 : decode cX9_count 126 = .ok (.aload_n 2, 1) := by decide +kernel
theorem dX9_count_127 : decode cX9_count 127 = .ok (.iconst 0, 1) := by decide +kernel
theorem dX9_count_128 : decode cX9_count 128 = .ok (.invokevirtual 131, 3) := by decide +kernel
theorem dX9_count_131 : decode cX9_count 131 = .ok (.ireturn, 1) := by decide +kernel
theorem dX9_count_132 : decode cX9_count 132 = .ok (.aload_n 2, 1) := by decide +kernel
theorem dX9_count_133 : decode cX9_count 133 = .ok (.iconst 1, 1) := by decide +kernel
theorem dX9_count_134 : decode cX9_count 134 = .ok (.invokevirtual 131, 3) := by decide +kernel
theorem dX9_count_137 : decode cX9_count 137 = .ok (.ireturn, 1) := by decide +kernel
theorem dX9_count_138 : decode cX9_count 138 = .ok (.aload_n 2, 1) := by decide +kernel
theorem dX9_count_139 : decode cX9_count 139 = .ok (.iconst 3, 1) := by decide +kernel
theorem dX9_count_140 : decode cX9_count 140 = .ok (.invokevirtual 131, 3) := by decide +kernel
theorem dX9_count_143 : decode cX9_count 143 = .ok (.ireturn, 1) := by decide +kernel
theorem dX9_count_144 : decode cX9_count 144 = .ok (.aload_n 2, 1) := by decide +kernel
theorem dX9_count_145 : decode cX9_count 145 = .ok (.getfield 150, 3) := by decide +kernel
theorem dX9_count_148 : decode cX9_count 148 = .ok (.ireturn, 1) := by decide +kernel
theorem dX9_count_149 : decode cX9_count 149 = .ok (.aload_n 2, 1) := by decide +kernel
theorem dX9_count_150 : decode cX9_count 150 = .ok (.getfield 204, 3) := by decide +kernel
theorem dX9_count_153 : decode cX9_count 153 = .ok (.ireturn, 1) := by decide +kernel
theorem dX9_count_154 : decode cX9_count 154 = .ok (.aload_n 2, 1) := by decide +kernel
theorem dX9_count_155 : decode cX9_count 155 = .ok (.getfield 207, 3) := by decide +kernel
theorem dX9_count_158 : decode cX9_count 158 = .ok (.ireturn, 1) := by decide +kernel
theorem dX9_count_159 : decode cX9_count 159 = .ok (.aload_n 2, 1) := by decide +kernel
theorem dX9_count_160 : decode cX9_count 160 = .ok (.getfield 210, 3) := by decide +kernel
theorem dX9_count_163 : decode cX9_count 163 = .ok (.ireturn, 1) := by decide +kernel
theorem dX9_count_164 : decode cX9_count 164 = .ok (.aload_n 2, 1) := by decide +kernel
theorem dX9_count_165 : decode cX9_count 165 = .ok (.getfield 213, 3) := by decide +kernel
theorem dX9_count_168 : decode cX9_count 168 = .ok (.ireturn, 1) := by decide +kernel
theorem dX9_count_169 : decode cX9_count 169 = .ok (.aload_n 2, 1) := by decide +kernel
theorem dX9_count_170 : decode cX9_count 170 = .ok (.getfield 216, 3) := by decide +kernel
theorem dX9_count_173 : decode cX9_count 173 = .ok (.ireturn, 1) := by decide +kernel
theorem dX9_count_174 : decode cX9_count 174 = .ok (.aload_n 2, 1) := by decide +kernel
theorem dX9_count_175 : decode cX9_count 175 = .ok (.invokevirtual 219, 3) := by decide +kernel
theorem dX9_count_178 : decode cX9_count 178 = .ok (.ireturn, 1) := by decide +kernel
theorem dX9_count_179 : decode cX9_count 179 = .ok (.aload_n 2, 1) := by decide +kernel
theorem dX9_count_180 : decode cX9_count 180 = .ok (.getfield 222, 3) := by decide +kernel
theorem dX9_count_183 : decode cX9_count 183 = .ok (.ireturn, 1) := by decide +kernel
theorem dX9_count_184 : decode cX9_count 184 = .ok (.aload_n 0, 1) := by decide +kernel
theorem dX9_count_185 : decode cX9_count 185 = .ok (.getfield 19, 3) := by decide +kernel
theorem dX9_count_188 : decode cX9_count 188 = .ok (.invokevirtual 225, 3) := by decide +kernel
theorem dX9_count_191 : decode cX9_count 191 = .ok (.ireturn, 1) := by decide +kernel
theorem dX9_count_192 : decode cX9_count 192 = .ok (.aload_n 0, 1) := by decide +kernel
theorem dX9_count_193 : decode cX9_count 193 = .ok (.getfield 26, 3) := by decide +kernel
theorem dX9_count_196 : decode cX9_count 196 = .ok (.getfield 192, 3) := by decide +kernel
theorem dX9_count_199 : decode cX9_count 199 = .ok (.ireturn, 1) := by decide +kernel
theorem dX9_count_200 : decode cX9_count 200 = .ok (.aload_n 0, 1) := by decide +kernel
theorem dX9_count_201 : decode cX9_count 201 = .ok (.getfield 12, 3) := by decide +kernel
theorem dX9_count_204 : decode cX9_count 204 = .ok (.getfield 100, 3) := by decide +kernel
theorem dX9_count_207 : decode cX9_count 207 = .ok (.getfield 201, 3) := by decide +kernel
theorem dX9_count_210 : decode cX9_count 210 = .ok (.ireturn, 1) := by decide +kernel
theorem dX9_count_211 : decode cX9_count 211 = .ok (.aload_n 2, 1) := by decide +kernel
theorem dX9_count_212 : decode cX9_count 212 = .ok (.iload_n 1, 1) := by decide +kernel
theorem dX9_count_213 : decode cX9_count 213 = .ok (.bipush 17, 2) := by decide +kernel
theorem dX9_count_215 : decode cX9_count 215 = .ok (.isub, 1) := by decide +kernel
theorem dX9_count_216 : decode cX9_count 216 = .ok (.invokevirtual 143, 3) := by decide +kernel
theorem dX9_count_219 : decode cX9_count 219 = .ok (.ireturn, 1) := by decide +kernel
theorem dX9_change_0 : decode cX9_change 0 = .ok (.aload_n 0, 1) := by decide +kernel
theorem dX9_change_1 : decode cX9_change 1 = .ok (.getfield 19, 3) := by decide +kernel
theorem dX9_change_4 : decode cX9_change 4 = .ok (.getfield 49, 3) := by decide +kernel
theorem dX9_change_7 : decode cX9_change 7 = .ok (.getfield 52, 3) := by decide +kernel
theorem dX9_change_10 : decode cX9_change 10 = .ok (.astore_n 3, 1) := by decide +kernel
theorem dX9_change_11 : decode cX9_change 11 = .ok (.iload_n 1, 1) := by decide +kernel
theorem dX9_change_12 : decode cX9_change 12 = .ok (.ifCond .lt 20, 3) := by decide +kernel
theorem dX9_change_15 : decode cX9_change 15 = .ok (.iload_n 1, 1) := by decide +kernel
theorem dX9_change_16 : decode cX9_change 16 = .ok (.aload_n 3, 1) := by decide +kernel
theorem dX9_change_17 : decode cX9_change 17 = .ok (.getfield 183, 3) := by decide +kernel
theorem dX9_change_20 : decode cX9_change 20 = .ok (.if_icmp .ge 12, 3) := by decide +kernel
theorem dX9_change_23 : decode cX9_change 23 = .ok (.iload_n 2, 1) := by decide +kernel
theorem dX9_change_24 : decode cX9_change 24 = .ok (.ifCond .lt 8, 3) := by decide +kernel
theorem dX9_change_27 : decode cX9_change 27 = .ok (.iload_n 2, 1) := by decide +kernel
theorem dX9_change_28 : decode cX9_change 28 = .ok (.iconst 3, 1) := by decide +kernel
theorem dX9_change_29 : decode cX9_change 29 = .ok (.if_icmp .le 6, 3) := by decide +kernel
theorem dX9_change_32 : decode cX9_change 32 = .ok (.ldc 48, 2) := by decide +kernel
theorem dX9_change_34 : decode cX9_change 34 = .ok (.ireturn, 1) := by decide +kernel
theorem dX9_change_35 : decode cX9_change 35 = .ok (.aload_n 3, 1) := by decide +kernel
theorem dX9_change_36 : decode cX9_change 36 = .ok (.iload_n 1, 1) := by decide +kernel
theorem dX9_change_37 : decode cX9_change 37 = .ok (.invokevirtual 232, 3) := by decide +kernel
theorem dX9_change_40 : decode cX9_change 40 = .ok (.istore 4, 2) := by decide +kernel
theorem dX9_change_42 : decode cX9_change 42 = .ok (.iload_n 2, 1) := by decide +kernel
theorem dX9_change_43 : decode cX9_change 43 = .ok (.tableswitch 43 0 2 #[25, 31, 37], 25) := by decide +kernel
theorem dX9_change_68 : decode cX9_change 68 = .ok (.iload 4, 2) := by decide +kernel
theorem dX9_change_70 : decode cX9_change 70 = .ok (.bipush 12, 2) := by decide +kernel
theorem dX9_change_72 : decode cX9_change 72 = .ok (.idiv, 1) := by decide +kernel
theorem dX9_change_73 : decode cX9_change 73 = .ok (.ireturn, 1) := by decide +kernel
theorem dX9_change_74 : decode cX9_change 74 = .ok (.iload 4, 2) := by decide +kernel
theorem dX9_change_76 : decode cX9_change 76 = .ok (.bipush 12, 2) := by decide +kernel
theorem dX9_change_78 : decode cX9_change 78 = .ok (.irem, 1) := by decide +kernel
theorem dX9_change_79 : decode cX9_change 79 = .ok (.ireturn, 1) := by decide +kernel
theorem dX9_change_80 : decode cX9_change 80 = .ok (.aload_n 3, 1) := by decide +kernel
theorem dX9_change_81 : decode cX9_change 81 = .ok (.iload_n 1, 1) := by decide +kernel
theorem dX9_change_82 : decode cX9_change 82 = .ok (.invokevirtual 235, 3) := by decide +kernel
theorem dX9_change_85 : decode cX9_change 85 = .ok (.ireturn, 1) := by decide +kernel
theorem dX9_change_86 : decode cX9_change 86 = .ok (.aload_n 0, 1) := by decide +kernel
theorem dX9_change_87 : decode cX9_change 87 = .ok (.getfield 19, 3) := by decide +kernel
theorem dX9_change_90 : decode cX9_change 90 = .ok (.getfield 49, 3) := by decide +kernel
theorem dX9_change_93 : decode cX9_change 93 = .ok (.iload 4, 2) := by decide +kernel
theorem dX9_change_95 : decode cX9_change 95 = .ok (.invokevirtual 238, 3) := by decide +kernel
theorem dX9_change_98 : decode cX9_change 98 = .ok (.ireturn, 1) := by decide +kernel
theorem dX9_view_0 : decode cX9_view 0 = .ok (.aload_n 0, 1) := by decide +kernel
theorem dX9_view_1 : decode cX9_view 1 = .ok (.getfield 19, 3) := by decide +kernel
theorem dX9_view_4 : decode cX9_view 4 = .ok (.getfield 49, 3) := by decide +kernel
theorem dX9_view_7 : decode cX9_view 7 = .ok (.astore_n 3, 1) := by decide +kernel
theorem dX9_view_8 : decode cX9_view 8 = .ok (.aload_n 3, 1) := by decide +kernel
theorem dX9_view_9 : decode cX9_view 9 = .ok (.iload_n 1, 1) := by decide +kernel
theorem dX9_view_10 : decode cX9_view 10 = .ok (.invokevirtual 116, 3) := by decide +kernel
theorem dX9_view_13 : decode cX9_view 13 = .ok (.astore 4, 2) := by decide +kernel
theorem dX9_view_15 : decode cX9_view 15 = .ok (.aload 4, 2) := by decide +kernel
theorem dX9_view_17 : decode cX9_view 17 = .ok (.ifnull 13, 3) := by decide +kernel
theorem dX9_view_20 : decode cX9_view 20 = .ok (.iload_n 2, 1) := by decide +kernel
theorem dX9_view_21 : decode cX9_view 21 = .ok (.ifCond .lt 9, 3) := by decide +kernel
theorem dX9_view_24 : decode cX9_view 24 = .ok (.iload_n 2, 1) := by decide +kernel
theorem dX9_view_25 : decode cX9_view 25 = .ok (.bipush 9, 2) := by decide +kernel
theorem dX9_view_27 : decode cX9_view 27 = .ok (.if_icmp .le 6, 3) := by decide +kernel
theorem dX9_view_30 : decode cX9_view 30 = .ok (.ldc 48, 2) := by decide +kernel
theorem dX9_view_32 : decode cX9_view 32 = .ok (.ireturn, 1) := by decide +kernel
theorem dX9_view_33 : decode cX9_view 33 = .ok (.iload_n 2, 1) := by decide +kernel
theorem dX9_view_34 : decode cX9_view 34 = .ok (.tableswitch 140 0 8 #[50, 56, 75, 81, 87, 101, 120, 127, 133], 50) := by decide +kernel
theorem dX9_view_84 : decode cX9_view 84 = .ok (.aload 4, 2) := by decide +kernel
theorem dX9_view_86 : decode cX9_view 86 = .ok (.getfield 241, 3) := by decide +kernel
theorem dX9_view_89 : decode cX9_view 89 = .ok (.ireturn, 1) := by decide +kernel
theorem dX9_view_90 : decode cX9_view 90 = .ok (.aload 4, 2) := by decide +kernel
theorem dX9_view_92 : decode cX9_view 92 = .ok (.invokevirtual 242, 3) := by decide +kernel
theorem dX9_view_95 : decode cX9_view 95 = .ok (.ifCond .eq 11, 3) := by decide +kernel
theorem dX9_view_98 : decode cX9_view 98 = .ok (.aload 4, 2) := by decide +kernel
theorem dX9_view_100 : decode cX9_view 100 = .ok (.getfield 245, 3) := by decide +kernel
theorem dX9_view_103 : decode cX9_view 103 = .ok (.goto 5, 3) := by decide +kernel
theorem dX9_view_106 : decode cX9_view 106 = .ok (.ldc 231, 2) := by decide +kernel
theorem dX9_view_108 : decode cX9_view 108 = .ok (.ireturn, 1) := by decide +kernel
theorem dX9_view_109 : decode cX9_view 109 = .ok (.aload 4, 2) := by decide +kernel
theorem dX9_view_111 : decode cX9_view 111 = .ok (.getfield 246, 3) := by decide +kernel
theorem dX9_view_114 : decode cX9_view 114 = .ok (.ireturn, 1) := by decide +kernel
theorem dX9_view_115 : decode cX9_view 115 = .ok (.aload 4, 2) := by decide +kernel
theorem dX9_view_117 : decode cX9_view 117 = .ok (.getfield 247, 3) := by decide +kernel
theorem dX9_view_120 : decode cX9_view 120 = .ok (.ireturn, 1) := by decide +kernel
theorem dX9_view_121 : decode cX9_view 121 = .ok (.aload 4, 2) := by decide +kernel
theorem dX9_view_123 : decode cX9_view 123 = .ok (.getfield 161, 3) := by decide +kernel
theorem dX9_view_126 : decode cX9_view 126 = .ok (.ifCond .eq 7, 3) := by decide +kernel
theorem dX9_view_129 : decode cX9_view 129 = .ok (.iconst 1, 1) := by decide +kernel
theorem dX9_view_130 : decode cX9_view 130 = .ok (.goto 4, 3) := by decide +kernel
theorem dX9_view_133 : decode cX9_view 133 = .ok (.iconst 0, 1) := by decide +kernel
theorem dX9_view_134 : decode cX9_view 134 = .ok (.ireturn, 1) := by decide +kernel
theorem dX9_view_135 : decode cX9_view 135 = .ok (.aload 4, 2) := by decide +kernel
theorem dX9_view_137 : decode cX9_view 137 = .ok (.getfield 161, 3) := by decide +kernel
theorem dX9_view_140 : decode cX9_view 140 = .ok (.ifCond .eq 8, 3) := by decide +kernel
theorem dX9_view_143 : decode cX9_view 143 = .ok (.ldc 231, 2) := by decide +kernel
theorem dX9_view_145 : decode cX9_view 145 = .ok (.goto 8, 3) := by decide +kernel
theorem dX9_view_148 : decode cX9_view 148 = .ok (.aload 4, 2) := by decide +kernel
theorem dX9_view_150 : decode cX9_view 150 = .ok (.getfield 248, 3) := by decide +kernel
theorem dX9_view_153 : decode cX9_view 153 = .ok (.ireturn, 1) := by decide +kernel
theorem dX9_view_154 : decode cX9_view 154 = .ok (.aload_n 3, 1) := by decide +kernel
theorem dX9_view_155 : decode cX9_view 155 = .ok (.aload 4, 2) := by decide +kernel
theorem dX9_view_157 : decode cX9_view 157 = .ok (.invokevirtual 251, 3) := by decide +kernel
theorem dX9_view_160 : decode cX9_view 160 = .ok (.ireturn, 1) := by decide +kernel
theorem dX9_view_161 : decode cX9_view 161 = .ok (.aload 4, 2) := by decide +kernel
theorem dX9_view_163 : decode cX9_view 163 = .ok (.getfield 254, 3) := by decide +kernel
theorem dX9_view_166 : decode cX9_view 166 = .ok (.ireturn, 1) := by decide +kernel
theorem dX9_view_167 : decode cX9_view 167 = .ok (.aload_n 3, 1) := by decide +kernel
theorem dX9_view_168 : decode cX9_view 168 = .ok (.aload 4, 2) := by decide +kernel
theorem dX9_view_170 : decode cX9_view 170 = .ok (.invokevirtual 257, 3) := by decide +kernel
theorem dX9_view_173 : decode cX9_view 173 = .ok (.ireturn, 1) := by decide +kernel
theorem dX9_view_174 : decode cX9_view 174 = .ok (.aload 4, 2) := by decide +kernel
theorem dX9_view_176 : decode cX9_view 176 = .ok (.getfield 260, 3) := by decide +kernel
theorem dX9_view_179 : decode cX9_view 179 = .ok (.ireturn, 1) := by decide +kernel
theorem dX9_kept_0 : decode cX9_kept 0 = .ok (.aload_n 0, 1) := by decide +kernel
theorem dX9_kept_1 : decode cX9_kept 1 = .ok (.getfield 19, 3) := by decide +kernel
theorem dX9_kept_4 : decode cX9_kept 4 = .ok (.getfield 49, 3) := by decide +kernel
theorem dX9_kept_7 : decode cX9_kept 7 = .ok (.iload_n 1, 1) := by decide +kernel
theorem dX9_kept_8 : decode cX9_kept 8 = .ok (.invokevirtual 116, 3) := by decide +kernel
theorem dX9_kept_11 : decode cX9_kept 11 = .ok (.astore_n 2, 1) := by decide +kernel
theorem dX9_kept_12 : decode cX9_kept 12 = .ok (.aload_n 2, 1) := by decide +kernel
theorem dX9_kept_13 : decode cX9_kept 13 = .ok (.ifnonnull 6, 3) := by decide +kernel
theorem dX9_kept_16 : decode cX9_kept 16 = .ok (.ldc 48, 2) := by decide +kernel
theorem dX9_kept_18 : decode cX9_kept 18 = .ok (.ireturn, 1) := by decide +kernel
theorem dX9_kept_19 : decode cX9_kept 19 = .ok (.aload_n 2, 1) := by decide +kernel
theorem dX9_kept_20 : decode cX9_kept 20 = .ok (.getfield 161, 3) := by decide +kernel
theorem dX9_kept_23 : decode cX9_kept 23 = .ok (.ifCond .eq 6, 3) := by decide +kernel
theorem dX9_kept_26 : decode cX9_kept 26 = .ok (.ldc 124, 2) := by decide +kernel
theorem dX9_kept_28 : decode cX9_kept 28 = .ok (.ireturn, 1) := by decide +kernel
theorem dX9_kept_29 : decode cX9_kept 29 = .ok (.aload_n 0, 1) := by decide +kernel
theorem dX9_kept_30 : decode cX9_kept 30 = .ok (.getfield 33, 3) := by decide +kernel
theorem dX9_kept_33 : decode cX9_kept 33 = .ok (.aload_n 0, 1) := by decide +kernel
theorem dX9_kept_34 : decode cX9_kept 34 = .ok (.getfield 19, 3) := by decide +kernel
theorem dX9_kept_37 : decode cX9_kept 37 = .ok (.getfield 49, 3) := by decide +kernel
theorem dX9_kept_40 : decode cX9_kept 40 = .ok (.iload_n 1, 1) := by decide +kernel
theorem dX9_kept_41 : decode cX9_kept 41 = .ok (.aload_n 2, 1) := by decide +kernel
theorem dX9_kept_42 : decode cX9_kept 42 = .ok (.getfield 248, 3) := by decide +kernel
theorem dX9_kept_45 : decode cX9_kept 45 = .ok (.invokevirtual 263, 3) := by decide +kernel
theorem dX9_kept_48 : decode cX9_kept 48 = .ok (.ireturn, 1) := by decide +kernel
theorem dX9_ask_0 : decode cX9_ask 0 = .ok (.aload_n 0, 1) := by decide +kernel
theorem dX9_ask_1 : decode cX9_ask 1 = .ok (.getfield 19, 3) := by decide +kernel
theorem dX9_ask_4 : decode cX9_ask 4 = .ok (.getfield 49, 3) := by decide +kernel
theorem dX9_ask_7 : decode cX9_ask 7 = .ok (.astore 4, 2) := by decide +kernel
theorem dX9_ask_9 : decode cX9_ask 9 = .ok (.aload 4, 2) := by decide +kernel
theorem dX9_ask_11 : decode cX9_ask 11 = .ok (.iload_n 1, 1) := by decide +kernel
theorem dX9_ask_12 : decode cX9_ask 12 = .ok (.invokevirtual 116, 3) := by decide +kernel
theorem dX9_ask_15 : decode cX9_ask 15 = .ok (.ifnull 28, 3) := by decide +kernel
theorem dX9_ask_18 : decode cX9_ask 18 = .ok (.iload_n 2, 1) := by decide +kernel
theorem dX9_ask_19 : decode cX9_ask 19 = .ok (.ifCond .lt 24, 3) := by decide +kernel
theorem dX9_ask_22 : decode cX9_ask 22 = .ok (.iload_n 2, 1) := by decide +kernel
theorem dX9_ask_23 : decode cX9_ask 23 = .ok (.aload 4, 2) := by decide +kernel
theorem dX9_ask_25 : decode cX9_ask 25 = .ok (.getfield 52, 3) := by decide +kernel
theorem dX9_ask_28 : decode cX9_ask 28 = .ok (.getfield 183, 3) := by decide +kernel
theorem dX9_ask_31 : decode cX9_ask 31 = .ok (.if_icmp .gt 12, 3) := by decide +kernel
theorem dX9_ask_34 : decode cX9_ask 34 = .ok (.iload_n 3, 1) := by decide +kernel
theorem dX9_ask_35 : decode cX9_ask 35 = .ok (.ifCond .eq 11, 3) := by decide +kernel
theorem dX9_ask_38 : decode cX9_ask 38 = .ok (.iload_n 3, 1) := by decide +kernel
theorem dX9_ask_39 : decode cX9_ask 39 = .ok (.iconst 1, 1) := by decide +kernel
theorem dX9_ask_40 : decode cX9_ask 40 = .ok (.if_icmp .eq 6, 3) := by decide +kernel
theorem dX9_ask_43 : decode cX9_ask 43 = .ok (.ldc 48, 2) := by decide +kernel
theorem dX9_ask_45 : decode cX9_ask 45 = .ok (.ireturn, 1) := by decide +kernel
theorem dX9_ask_46 : decode cX9_ask 46 = .ok (.iload_n 3, 1) := by decide +kernel
theorem dX9_ask_47 : decode cX9_ask 47 = .ok (.ifCond .ne 17, 3) := by decide +kernel
theorem dX9_ask_50 : decode cX9_ask 50 = .ok (.aload_n 0, 1) := by decide +kernel
theorem dX9_ask_51 : decode cX9_ask 51 = .ok (.getfield 33, 3) := by decide +kernel
theorem dX9_ask_54 : decode cX9_ask 54 = .ok (.aload 4, 2) := by decide +kernel
theorem dX9_ask_56 : decode cX9_ask 56 = .ok (.iload_n 1, 1) := by decide +kernel
theorem dX9_ask_57 : decode cX9_ask 57 = .ok (.iload_n 2, 1) := by decide +kernel
theorem dX9_ask_58 : decode cX9_ask 58 = .ok (.invokevirtual 263, 3) := by decide +kernel
theorem dX9_ask_61 : decode cX9_ask 61 = .ok (.goto 14, 3) := by decide +kernel
theorem dX9_ask_64 : decode cX9_ask 64 = .ok (.aload_n 0, 1) := by decide +kernel
theorem dX9_ask_65 : decode cX9_ask 65 = .ok (.getfield 33, 3) := by decide +kernel
theorem dX9_ask_68 : decode cX9_ask 68 = .ok (.aload 4, 2) := by decide +kernel
theorem dX9_ask_70 : decode cX9_ask 70 = .ok (.iload_n 1, 1) := by decide +kernel
theorem dX9_ask_71 : decode cX9_ask 71 = .ok (.iload_n 2, 1) := by decide +kernel
theorem dX9_ask_72 : decode cX9_ask 72 = .ok (.invokevirtual 267, 3) := by decide +kernel
theorem dX9_ask_75 : decode cX9_ask 75 = .ok (.ireturn, 1) := by decide +kernel
theorem dX9_ruin_0 : decode cX9_ruin 0 = .ok (.aload_n 0, 1) := by decide +kernel
theorem dX9_ruin_1 : decode cX9_ruin 1 = .ok (.getfield 19, 3) := by decide +kernel
theorem dX9_ruin_4 : decode cX9_ruin 4 = .ok (.getfield 49, 3) := by decide +kernel
theorem dX9_ruin_7 : decode cX9_ruin 7 = .ok (.astore_n 2, 1) := by decide +kernel
theorem dX9_ruin_8 : decode cX9_ruin 8 = .ok (.aload_n 2, 1) := by decide +kernel
theorem dX9_ruin_9 : decode cX9_ruin 9 = .ok (.iload_n 1, 1) := by decide +kernel
theorem dX9_ruin_10 : decode cX9_ruin 10 = .ok (.invokevirtual 116, 3) := by decide +kernel
theorem dX9_ruin_13 : decode cX9_ruin 13 = .ok (.astore_n 3, 1) := by decide +kernel
theorem dX9_ruin_14 : decode cX9_ruin 14 = .ok (.aload_n 3, 1) := by decide +kernel
theorem dX9_ruin_15 : decode cX9_ruin 15 = .ok (.ifnonnull 6, 3) := by decide +kernel
theorem dX9_ruin_18 : decode cX9_ruin 18 = .ok (.ldc 48, 2) := by decide +kernel
theorem dX9_ruin_20 : decode cX9_ruin 20 = .ok (.ireturn, 1) := by decide +kernel
theorem dX9_ruin_21 : decode cX9_ruin 21 = .ok (.aload_n 3, 1) := by decide +kernel
theorem dX9_ruin_22 : decode cX9_ruin 22 = .ok (.getfield 161, 3) := by decide +kernel
theorem dX9_ruin_25 : decode cX9_ruin 25 = .ok (.ifCond .eq 6, 3) := by decide +kernel
theorem dX9_ruin_28 : decode cX9_ruin 28 = .ok (.ldc 124, 2) := by decide +kernel
theorem dX9_ruin_30 : decode cX9_ruin 30 = .ok (.ireturn, 1) := by decide +kernel
theorem dX9_ruin_31 : decode cX9_ruin 31 = .ok (.aload_n 2, 1) := by decide +kernel
theorem dX9_ruin_32 : decode cX9_ruin 32 = .ok (.aload_n 3, 1) := by decide +kernel
theorem dX9_ruin_33 : decode cX9_ruin 33 = .ok (.invokevirtual 270, 3) := by decide +kernel
theorem dX9_ruin_36 : decode cX9_ruin 36 = .ok (.istore 4, 2) := by decide +kernel
theorem dX9_ruin_38 : decode cX9_ruin 38 = .ok (.aload_n 2, 1) := by decide +kernel
theorem dX9_ruin_39 : decode cX9_ruin 39 = .ok (.iconst 2, 1) := by decide +kernel
theorem dX9_ruin_40 : decode cX9_ruin 40 = .ok (.invokevirtual 143, 3) := by decide +kernel
theorem dX9_ruin_43 : decode cX9_ruin 43 = .ok (.istore 5, 2) := by decide +kernel
theorem dX9_ruin_45 : decode cX9_ruin 45 = .ok (.aload_n 3, 1) := by decide +kernel
theorem dX9_ruin_46 : decode cX9_ruin 46 = .ok (.getfield 254, 3) := by decide +kernel
theorem dX9_ruin_49 : decode cX9_ruin 49 = .ok (.istore 6, 2) := by decide +kernel
theorem dX9_ruin_51 : decode cX9_ruin 51 = .ok (.iconst 1, 1) := by decide +kernel
theorem dX9_ruin_52 : decode cX9_ruin 52 = .ok (.istore 7, 2) := by decide +kernel
theorem dX9_ruin_54 : decode cX9_ruin 54 = .ok (.iload 7, 2) := by decide +kernel
theorem dX9_ruin_56 : decode cX9_ruin 56 = .ok (.sipush 1000, 3) := by decide +kernel
theorem dX9_ruin_59 : decode cX9_ruin 59 = .ok (.if_icmp .gt 26, 3) := by decide +kernel
theorem dX9_ruin_62 : decode cX9_ruin 62 = .ok (.iload 6, 2) := by decide +kernel
theorem dX9_ruin_64 : decode cX9_ruin 64 = .ok (.iload 4, 2) := by decide +kernel
theorem dX9_ruin_66 : decode cX9_ruin 66 = .ok (.iadd, 1) := by decide +kernel
theorem dX9_ruin_67 : decode cX9_ruin 67 = .ok (.istore 6, 2) := by decide +kernel
theorem dX9_ruin_69 : decode cX9_ruin 69 = .ok (.iload 6, 2) := by decide +kernel
theorem dX9_ruin_71 : decode cX9_ruin 71 = .ok (.iload 5, 2) := by decide +kernel
theorem dX9_ruin_73 : decode cX9_ruin 73 = .ok (.if_icmp .le 6, 3) := by decide +kernel
theorem dX9_ruin_76 : decode cX9_ruin 76 = .ok (.iload 7, 2) := by decide +kernel
theorem dX9_ruin_78 : decode cX9_ruin 78 = .ok (.ireturn, 1) := by decide +kernel
theorem dX9_ruin_79 : decode cX9_ruin 79 = .ok (.iinc 7 1, 3) := by decide +kernel
theorem dX9_ruin_82 : decode cX9_ruin 82 = .ok (.goto (-28), 3) := by decide +kernel
theorem dX9_ruin_85 : decode cX9_ruin 85 = .ok (.ldc 231, 2) := by decide +kernel
theorem dX9_ruin_87 : decode cX9_ruin 87 = .ok (.ireturn, 1) := by decide +kernel
theorem dX9_needed_0 : decode cX9_needed 0 = .ok (.aload_n 0, 1) := by decide +kernel
theorem dX9_needed_1 : decode cX9_needed 1 = .ok (.getfield 19, 3) := by decide +kernel
theorem dX9_needed_4 : decode cX9_needed 4 = .ok (.getfield 49, 3) := by decide +kernel
theorem dX9_needed_7 : decode cX9_needed 7 = .ok (.invokevirtual 277, 3) := by decide +kernel
theorem dX9_needed_10 : decode cX9_needed 10 = .ok (.ireturn, 1) := by decide +kernel
theorem dX9_since_0 : decode cX9_since 0 = .ok (.aload_n 0, 1) := by decide +kernel
theorem dX9_since_1 : decode cX9_since 1 = .ok (.getfield 19, 3) := by decide +kernel
theorem dX9_since_4 : decode cX9_since 4 = .ok (.getfield 49, 3) := by decide +kernel
theorem dX9_since_7 : decode cX9_since 7 = .ok (.iload_n 1, 1) := by decide +kernel
theorem dX9_since_8 : decode cX9_since 8 = .ok (.invokevirtual 116, 3) := by decide +kernel
theorem dX9_since_11 : decode cX9_since 11 = .ok (.ifnonnull 6, 3) := by decide +kernel
theorem dX9_since_14 : decode cX9_since 14 = .ok (.ldc 48, 2) := by decide +kernel
theorem dX9_since_16 : decode cX9_since 16 = .ok (.ireturn, 1) := by decide +kernel
theorem dX9_since_17 : decode cX9_since 17 = .ok (.aload_n 0, 1) := by decide +kernel
theorem dX9_since_18 : decode cX9_since 18 = .ok (.getfield 33, 3) := by decide +kernel
theorem dX9_since_21 : decode cX9_since 21 = .ok (.aload_n 0, 1) := by decide +kernel
theorem dX9_since_22 : decode cX9_since 22 = .ok (.getfield 19, 3) := by decide +kernel
theorem dX9_since_25 : decode cX9_since 25 = .ok (.getfield 49, 3) := by decide +kernel
theorem dX9_since_28 : decode cX9_since 28 = .ok (.iload_n 1, 1) := by decide +kernel
theorem dX9_since_29 : decode cX9_since 29 = .ok (.invokevirtual 280, 3) := by decide +kernel
theorem dX9_since_32 : decode cX9_since 32 = .ok (.ireturn, 1) := by decide +kernel
theorem dX9_isCell_0 : decode cX9_isCell 0 = .ok (.iload_n 0, 1) := by decide +kernel
theorem dX9_isCell_1 : decode cX9_isCell 1 = .ok (.ifCond .lt 22, 3) := by decide +kernel
theorem dX9_isCell_4 : decode cX9_isCell 4 = .ok (.iload_n 0, 1) := by decide +kernel
theorem dX9_isCell_5 : decode cX9_isCell 5 = .ok (.iconst 2, 1) := by decide +kernel
theorem dX9_isCell_6 : decode cX9_isCell 6 = .ok (.if_icmp .ge 17, 3) := by decide +kernel
theorem dX9_isCell_9 : decode cX9_isCell 9 = .ok (.iload_n 1, 1) := by decide +kernel
theorem dX9_isCell_10 : decode cX9_isCell 10 = .ok (.ifCond .lt 13, 3) := by decide +kernel
theorem dX9_isCell_13 : decode cX9_isCell 13 = .ok (.iload_n 1, 1) := by decide +kernel
theorem dX9_isCell_14 : decode cX9_isCell 14 = .ok (.bipush 12, 2) := by decide +kernel
theorem dX9_isCell_16 : decode cX9_isCell 16 = .ok (.if_icmp .ge 7, 3) := by decide +kernel
theorem dX9_isCell_19 : decode cX9_isCell 19 = .ok (.iconst 1, 1) := by decide +kernel
theorem dX9_isCell_20 : decode cX9_isCell 20 = .ok (.goto 4, 3) := by decide +kernel
theorem dX9_isCell_23 : decode cX9_isCell 23 = .ok (.iconst 0, 1) := by decide +kernel
theorem dX9_isCell_24 : decode cX9_isCell 24 = .ok (.ireturn, 1) := by decide +kernel
theorem dX9_cellOf_0 : decode cX9_cellOf 0 = .ok (.iload_n 0, 1) := by decide +kernel
theorem dX9_cellOf_1 : decode cX9_cellOf 1 = .ok (.bipush 12, 2) := by decide +kernel
theorem dX9_cellOf_3 : decode cX9_cellOf 3 = .ok (.imul, 1) := by decide +kernel
theorem dX9_cellOf_4 : decode cX9_cellOf 4 = .ok (.iload_n 1, 1) := by decide +kernel
theorem dX9_cellOf_5 : decode cX9_cellOf 5 = .ok (.iadd, 1) := by decide +kernel
theorem dX9_cellOf_6 : decode cX9_cellOf 6 = .ok (.ireturn, 1) := by decide +kernel
theorem dX9_isSetting_0 : decode cX9_isSetting 0 = .ok (.iload_n 0, 1) := by decide +kernel
theorem dX9_isSetting_1 : decode cX9_isSetting 1 = .ok (.ifCond .lt 41, 3) := by decide +kernel
theorem dX9_isSetting_4 : decode cX9_isSetting 4 = .ok (.iload_n 0, 1) := by decide +kernel
theorem dX9_isSetting_5 : decode cX9_isSetting 5 = .ok (.getstatic 284, 3) := by decide +kernel
theorem dX9_isSetting_8 : decode cX9_isSetting 8 = .ok (.arraylength, 1) := by decide +kernel
theorem dX9_isSetting_9 : decode cX9_isSetting 9 = .ok (.if_icmp .ge 33, 3) := by decide +kernel
theorem dX9_isSetting_12 : decode cX9_isSetting 12 = .ok (.iload_n 0, 1) := by decide +kernel
theorem dX9_isSetting_13 : decode cX9_isSetting 13 = .ok (.getstatic 288, 3) := by decide +kernel
theorem dX9_isSetting_16 : decode cX9_isSetting 16 = .ok (.arraylength, 1) := by decide +kernel
theorem dX9_isSetting_17 : decode cX9_isSetting 17 = .ok (.if_icmp .ge 25, 3) := by decide +kernel
theorem dX9_isSetting_20 : decode cX9_isSetting 20 = .ok (.iload_n 1, 1) := by decide +kernel
theorem dX9_isSetting_21 : decode cX9_isSetting 21 = .ok (.getstatic 284, 3) := by decide +kernel
theorem dX9_isSetting_24 : decode cX9_isSetting 24 = .ok (.iload_n 0, 1) := by decide +kernel
theorem dX9_isSetting_25 : decode cX9_isSetting 25 = .ok (.iaload, 1) := by decide +kernel
theorem dX9_isSetting_26 : decode cX9_isSetting 26 = .ok (.if_icmp .lt 16, 3) := by decide +kernel
theorem dX9_isSetting_29 : decode cX9_isSetting 29 = .ok (.iload_n 1, 1) := by decide +kernel
theorem dX9_isSetting_30 : decode cX9_isSetting 30 = .ok (.getstatic 288, 3) := by decide +kernel
theorem dX9_isSetting_33 : decode cX9_isSetting 33 = .ok (.iload_n 0, 1) := by decide +kernel
theorem dX9_isSetting_34 : decode cX9_isSetting 34 = .ok (.iaload, 1) := by decide +kernel
theorem dX9_isSetting_35 : decode cX9_isSetting 35 = .ok (.if_icmp .gt 7, 3) := by decide +kernel
theorem dX9_isSetting_38 : decode cX9_isSetting 38 = .ok (.iconst 1, 1) := by decide +kernel
theorem dX9_isSetting_39 : decode cX9_isSetting 39 = .ok (.goto 4, 3) := by decide +kernel
theorem dX9_isSetting_42 : decode cX9_isSetting 42 = .ok (.iconst 0, 1) := by decide +kernel
theorem dX9_isSetting_43 : decode cX9_isSetting 43 = .ok (.ireturn, 1) := by decide +kernel
theorem dX9_amount_0 : decode cX9_amount 0 = .ok (.iload_n 0, 1) := by decide +kernel
theorem dX9_amount_1 : decode cX9_amount 1 = .ok (.iconst (-1), 1) := by decide +kernel
theorem dX9_amount_2 : decode cX9_amount 2 = .ok (.if_icmp .ne 7, 3) := by decide +kernel
theorem dX9_amount_5 : decode cX9_amount 5 = .ok (.iconst 0, 1) := by decide +kernel
theorem dX9_amount_6 : decode cX9_amount 6 = .ok (.goto 4, 3) := by decide +kernel
theorem dX9_amount_9 : decode cX9_amount 9 = .ok (.iload_n 0, 1) := by decide +kernel
theorem dX9_amount_10 : decode cX9_amount 10 = .ok (.ireturn, 1) := by decide +kernel
theorem dX9_presence_0 : decode cX9_presence 0 = .ok (.iload_n 0, 1) := by decide +kernel
theorem dX9_presence_1 : decode cX9_presence 1 = .ok (.iconst (-1), 1) := by decide +kernel
theorem dX9_presence_2 : decode cX9_presence 2 = .ok (.if_icmp .ne 7, 3) := by decide +kernel
theorem dX9_presence_5 : decode cX9_presence 5 = .ok (.iconst 0, 1) := by decide +kernel
theorem dX9_presence_6 : decode cX9_presence 6 = .ok (.goto 4, 3) := by decide +kernel
theorem dX9_presence_9 : decode cX9_presence 9 = .ok (.iconst 1, 1) := by decide +kernel
theorem dX9_presence_10 : decode cX9_presence 10 = .ok (.ireturn, 1) := by decide +kernel
theorem dJ6_bitCount_0f7a4_0 : decode cJ6_bitCount_0f7a4 0 = .ok (.iload_n 0, 1) := by decide +kernel
theorem dJ6_bitCount_0f7a4_1 : decode cJ6_bitCount_0f7a4 1 = .ok (.iload_n 0, 1) := by decide +kernel
theorem dJ6_bitCount_0f7a4_2 : decode cJ6_bitCount_0f7a4 2 = .ok (.iconst 1, 1) := by decide +kernel
theorem dJ6_bitCount_0f7a4_3 : decode cJ6_bitCount_0f7a4 3 = .ok (.iushr, 1) := by decide +kernel
theorem dJ6_bitCount_0f7a4_4 : decode cJ6_bitCount_0f7a4 4 = .ok (.ldc_w 265, 3) := by decide +kernel
theorem dJ6_bitCount_0f7a4_7 : decode cJ6_bitCount_0f7a4 7 = .ok (.iand, 1) := by decide +kernel
theorem dJ6_bitCount_0f7a4_8 : decode cJ6_bitCount_0f7a4 8 = .ok (.isub, 1) := by decide +kernel
theorem dJ6_bitCount_0f7a4_9 : decode cJ6_bitCount_0f7a4 9 = .ok (.istore_n 0, 1) := by decide +kernel
theorem dJ6_bitCount_0f7a4_10 : decode cJ6_bitCount_0f7a4 10 = .ok (.iload_n 0, 1) := by decide +kernel
theorem dJ6_bitCount_0f7a4_11 : decode cJ6_bitCount_0f7a4 11 = .ok (.ldc_w 266, 3) := by decide +kernel
theorem dJ6_bitCount_0f7a4_14 : decode cJ6_bitCount_0f7a4 14 = .ok (.iand, 1) := by decide +kernel
theorem dJ6_bitCount_0f7a4_15 : decode cJ6_bitCount_0f7a4 15 = .ok (.iload_n 0, 1) := by decide +kernel
theorem dJ6_bitCount_0f7a4_16 : decode cJ6_bitCount_0f7a4 16 = .ok (.iconst 2, 1) := by decide +kernel
theorem dJ6_bitCount_0f7a4_17 : decode cJ6_bitCount_0f7a4 17 = .ok (.iushr, 1) := by decide +kernel
theorem dJ6_bitCount_0f7a4_18 : decode cJ6_bitCount_0f7a4 18 = .ok (.ldc_w 266, 3) := by decide +kernel
theorem dJ6_bitCount_0f7a4_21 : decode cJ6_bitCount_0f7a4 21 = .ok (.iand, 1) := by decide +kernel
theorem dJ6_bitCount_0f7a4_22 : decode cJ6_bitCount_0f7a4 22 = .ok (.iadd, 1) := by decide +kernel
theorem dJ6_bitCount_0f7a4_23 : decode cJ6_bitCount_0f7a4 23 = .ok (.istore_n 0, 1) := by decide +kernel
theorem dJ6_bitCount_0f7a4_24 : decode cJ6_bitCount_0f7a4 24 = .ok (.iload_n 0, 1) := by decide +kernel
theorem dJ6_bitCount_0f7a4_25 : decode cJ6_bitCount_0f7a4 25 = .ok (.iload_n 0, 1) := by decide +kernel
theorem dJ6_bitCount_0f7a4_26 : decode cJ6_bitCount_0f7a4 26 = .ok (.iconst 4, 1) := by decide +kernel
theorem dJ6_bitCount_0f7a4_27 : decode cJ6_bitCount_0f7a4 27 = .ok (.iushr, 1) := by decide +kernel
theorem dJ6_bitCount_0f7a4_28 : decode cJ6_bitCount_0f7a4 28 = .ok (.iadd, 1) := by decide +kernel
theorem dJ6_bitCount_0f7a4_29 : decode cJ6_bitCount_0f7a4 29 = .ok (.ldc_w 267, 3) := by decide +kernel
theorem dJ6_bitCount_0f7a4_32 : decode cJ6_bitCount_0f7a4 32 = .ok (.iand, 1) := by decide +kernel
theorem dJ6_bitCount_0f7a4_33 : decode cJ6_bitCount_0f7a4 33 = .ok (.istore_n 0, 1) := by decide +kernel
theorem dJ6_bitCount_0f7a4_34 : decode cJ6_bitCount_0f7a4 34 = .ok (.iload_n 0, 1) := by decide +kernel
theorem dJ6_bitCount_0f7a4_35 : decode cJ6_bitCount_0f7a4 35 = .ok (.iload_n 0, 1) := by decide +kernel
theorem dJ6_bitCount_0f7a4_36 : decode cJ6_bitCount_0f7a4 36 = .ok (.bipush 8, 2) := by decide +kernel
theorem dJ6_bitCount_0f7a4_38 : decode cJ6_bitCount_0f7a4 38 = .ok (.iushr, 1) := by decide +kernel
theorem dJ6_bitCount_0f7a4_39 : decode cJ6_bitCount_0f7a4 39 = .ok (.iadd, 1) := by decide +kernel
theorem dJ6_bitCount_0f7a4_40 : decode cJ6_bitCount_0f7a4 40 = .ok (.istore_n 0, 1) := by decide +kernel
theorem dJ6_bitCount_0f7a4_41 : decode cJ6_bitCount_0f7a4 41 = .ok (.iload_n 0, 1) := by decide +kernel
theorem dJ6_bitCount_0f7a4_42 : decode cJ6_bitCount_0f7a4 42 = .ok (.iload_n 0, 1) := by decide +kernel
theorem dJ6_bitCount_0f7a4_43 : decode cJ6_bitCount_0f7a4 43 = .ok (.bipush 16, 2) := by decide +kernel
theorem dJ6_bitCount_0f7a4_45 : decode cJ6_bitCount_0f7a4 45 = .ok (.iushr, 1) := by decide +kernel
theorem dJ6_bitCount_0f7a4_46 : decode cJ6_bitCount_0f7a4 46 = .ok (.iadd, 1) := by decide +kernel
theorem dJ6_bitCount_0f7a4_47 : decode cJ6_bitCount_0f7a4 47 = .ok (.istore_n 0, 1) := by decide +kernel
theorem dJ6_bitCount_0f7a4_48 : decode cJ6_bitCount_0f7a4 48 = .ok (.iload_n 0, 1) := by decide +kernel
theorem dJ6_bitCount_0f7a4_49 : decode cJ6_bitCount_0f7a4 49 = .ok (.bipush 63, 2) := by decide +kernel
theorem dJ6_bitCount_0f7a4_51 : decode cJ6_bitCount_0f7a4 51 = .ok (.iand, 1) := by decide +kernel
theorem dJ6_bitCount_0f7a4_52 : decode cJ6_bitCount_0f7a4 52 = .ok (.ireturn, 1) := by decide +kernel
theorem dJ9_max_7cf53_0 : decode cJ9_max_7cf53 0 = .ok (.iload_n 0, 1) := by decide +kernel
theorem dJ9_max_7cf53_1 : decode cJ9_max_7cf53 1 = .ok (.iload_n 1, 1) := by decide +kernel
theorem dJ9_max_7cf53_2 : decode cJ9_max_7cf53 2 = .ok (.if_icmp .lt 7, 3) := by decide +kernel
theorem dJ9_max_7cf53_5 : decode cJ9_max_7cf53 5 = .ok (.iload_n 0, 1) := by decide +kernel
theorem dJ9_max_7cf53_6 : decode cJ9_max_7cf53 6 = .ok (.goto 4, 3) := by decide +kernel
theorem dJ9_max_7cf53_9 : decode cJ9_max_7cf53 9 = .ok (.iload_n 1, 1) := by decide +kernel
theorem dJ9_max_7cf53_10 : decode cJ9_max_7cf53 10 = .ok (.ireturn, 1) := by decide +kernel
theorem dJ9_min_7cf53_0 : decode cJ9_min_7cf53 0 = .ok (.iload_n 0, 1) := by decide +kernel
theorem dJ9_min_7cf53_1 : decode cJ9_min_7cf53 1 = .ok (.iload_n 1, 1) := by decide +kernel
theorem dJ9_min_7cf53_2 : decode cJ9_min_7cf53 2 = .ok (.if_icmp .gt 7, 3) := by decide +kernel
theorem dJ9_min_7cf53_5 : decode cJ9_min_7cf53 5 = .ok (.iload_n 0, 1) := by decide +kernel
theorem dJ9_min_7cf53_6 : decode cJ9_min_7cf53 6 = .ok (.goto 4, 3) := by decide +kernel
theorem dJ9_min_7cf53_9 : decode cJ9_min_7cf53 9 = .ok (.iload_n 1, 1) := by decide +kernel
theorem dJ9_min_7cf53_10 : decode cJ9_min_7cf53 10 = .ok (.ireturn, 1) := by decide +kernel
theorem dJ0_length_8abf5_0 : decode cJ0_length_8abf5 0 = .ok (.aload_n 0, 1) := by decide +kernel
theorem dJ0_length_8abf5_1 : decode cJ0_length_8abf5 1 = .ok (.getfield 9, 3) := by decide +kernel
theorem dJ0_length_8abf5_4 : decode cJ0_length_8abf5 4 = .ok (.arraylength, 1) := by decide +kernel
theorem dJ0_length_8abf5_5 : decode cJ0_length_8abf5 5 = .ok (.aload_n 0, 1) := by decide +kernel
theorem dJ0_length_8abf5_6 : decode cJ0_length_8abf5 6 = .ok (.invokevirtual 335, 3) := by decide +kernel
theorem dJ0_length_8abf5_9 : decode cJ0_length_8abf5 9 = .ok (.ishr, 1) := by decide +kernel
theorem dJ0_length_8abf5_10 : decode cJ0_length_8abf5 10 = .ok (.ireturn, 1) := by decide +kernel
theorem dJ0_charAt_5068e_0 : decode cJ0_charAt_5068e 0 = .ok (.aload_n 0, 1) := by decide +kernel
theorem dJ0_charAt_5068e_1 : decode cJ0_charAt_5068e 1 = .ok (.invokevirtual 492, 3) := by decide +kernel
theorem dJ0_charAt_5068e_4 : decode cJ0_charAt_5068e 4 = .ok (.ifCond .eq 12, 3) := by decide +kernel
theorem dJ0_charAt_5068e_7 : decode cJ0_charAt_5068e 7 = .ok (.aload_n 0, 1) := by decide +kernel
theorem dJ0_charAt_5068e_8 : decode cJ0_charAt_5068e 8 = .ok (.getfield 9, 3) := by decide +kernel
theorem dJ0_charAt_5068e_11 : decode cJ0_charAt_5068e 11 = .ok (.iload_n 1, 1) := by decide +kernel
theorem dJ0_charAt_5068e_12 : decode cJ0_charAt_5068e 12 = .ok (.invokestatic 495, 3) := by decide +kernel
theorem dJ0_charAt_5068e_15 : decode cJ0_charAt_5068e 15 = .ok (.ireturn, 1) := by decide +kernel
theorem dJ0_charAt_5068e_16 : decode cJ0_charAt_5068e 16 = .ok (.aload_n 0, 1) := by decide +kernel
theorem dJ0_charAt_5068e_17 : decode cJ0_charAt_5068e 17 = .ok (.getfield 9, 3) := by decide +kernel
theorem dJ0_charAt_5068e_20 : decode cJ0_charAt_5068e 20 = .ok (.iload_n 1, 1) := by decide +kernel
theorem dJ0_charAt_5068e_21 : decode cJ0_charAt_5068e 21 = .ok (.invokestatic 498, 3) := by decide +kernel
theorem dJ0_charAt_5068e_24 : decode cJ0_charAt_5068e 24 = .ok (.ireturn, 1) := by decide +kernel
theorem dJ0_coder_7d493_0 : decode cJ0_coder_7d493 0 = .ok (.getstatic 38, 3) := by decide +kernel
theorem dJ0_coder_7d493_3 : decode cJ0_coder_7d493 3 = .ok (.ifCond .eq 10, 3) := by decide +kernel
theorem dJ0_coder_7d493_6 : decode cJ0_coder_7d493 6 = .ok (.aload_n 0, 1) := by decide +kernel
theorem dJ0_coder_7d493_7 : decode cJ0_coder_7d493 7 = .ok (.getfield 15, 3) := by decide +kernel
theorem dJ0_coder_7d493_10 : decode cJ0_coder_7d493 10 = .ok (.goto 4, 3) := by decide +kernel
theorem dJ0_coder_7d493_13 : decode cJ0_coder_7d493 13 = .ok (.iconst 1, 1) := by decide +kernel
theorem dJ0_coder_7d493_14 : decode cJ0_coder_7d493 14 = .ok (.ireturn, 1) := by decide +kernel
theorem dJ0_isLatin1_aae02_0 : decode cJ0_isLatin1_aae02 0 = .ok (.getstatic 38, 3) := by decide +kernel
theorem dJ0_isLatin1_aae02_3 : decode cJ0_isLatin1_aae02 3 = .ok (.ifCond .eq 14, 3) := by decide +kernel
theorem dJ0_isLatin1_aae02_6 : decode cJ0_isLatin1_aae02 6 = .ok (.aload_n 0, 1) := by decide +kernel
theorem dJ0_isLatin1_aae02_7 : decode cJ0_isLatin1_aae02 7 = .ok (.getfield 15, 3) := by decide +kernel
theorem dJ0_isLatin1_aae02_10 : decode cJ0_isLatin1_aae02 10 = .ok (.ifCond .ne 7, 3) := by decide +kernel
theorem dJ0_isLatin1_aae02_13 : decode cJ0_isLatin1_aae02 13 = .ok (.iconst 1, 1) := by decide +kernel
theorem dJ0_isLatin1_aae02_14 : decode cJ0_isLatin1_aae02 14 = .ok (.goto 4, 3) := by decide +kernel
theorem dJ0_isLatin1_aae02_17 : decode cJ0_isLatin1_aae02 17 = .ok (.iconst 0, 1) := by decide +kernel
theorem dJ0_isLatin1_aae02_18 : decode cJ0_isLatin1_aae02 18 = .ok (.ireturn, 1) := by decide +kernel
theorem dJ0_checkIndex_df160_0 : decode cJ0_checkIndex_df160 0 = .ok (.iload_n 0, 1) := by decide +kernel
theorem dJ0_checkIndex_df160_1 : decode cJ0_checkIndex_df160 1 = .ok (.iload_n 1, 1) := by decide +kernel
theorem dJ0_checkIndex_df160_2 : decode cJ0_checkIndex_df160 2 = .ok (.getstatic 1053, 3) := by decide +kernel
theorem dJ0_checkIndex_df160_5 : decode cJ0_checkIndex_df160 5 = .ok (.invokestatic 1059, 3) := by decide +kernel
theorem dJ0_checkIndex_df160_8 : decode cJ0_checkIndex_df160 8 = .ok (.pop, 1) := by decide +kernel
theorem dJ0_checkIndex_df160_9 : decode cJ0_checkIndex_df160 9 = .ok (.return_, 1) := by decide +kernel
theorem dJ1_charAt_3b067_0 : decode cJ1_charAt_3b067 0 = .ok (.iload_n 1, 1) := by decide +kernel
theorem dJ1_charAt_3b067_1 : decode cJ1_charAt_3b067 1 = .ok (.aload_n 0, 1) := by decide +kernel
theorem dJ1_charAt_3b067_2 : decode cJ1_charAt_3b067 2 = .ok (.arraylength, 1) := by decide +kernel
theorem dJ1_charAt_3b067_3 : decode cJ1_charAt_3b067 3 = .ok (.invokestatic 9, 3) := by decide +kernel
theorem dJ1_charAt_3b067_6 : decode cJ1_charAt_3b067 6 = .ok (.aload_n 0, 1) := by decide +kernel
theorem dJ1_charAt_3b067_7 : decode cJ1_charAt_3b067 7 = .ok (.iload_n 1, 1) := by decide +kernel
theorem dJ1_charAt_3b067_8 : decode cJ1_charAt_3b067 8 = .ok (.baload, 1) := by decide +kernel
theorem dJ1_charAt_3b067_9 : decode cJ1_charAt_3b067 9 = .ok (.sipush 255, 3) := by decide +kernel
theorem dJ1_charAt_3b067_12 : decode cJ1_charAt_3b067 12 = .ok (.iand, 1) := by decide +kernel
theorem dJ1_charAt_3b067_13 : decode cJ1_charAt_3b067 13 = .ok (.i2c, 1) := by decide +kernel
theorem dJ1_charAt_3b067_14 : decode cJ1_charAt_3b067 14 = .ok (.ireturn, 1) := by decide +kernel
theorem dJ2_getChar_3b067_0 : decode cJ2_getChar_3b067 0 = .ok (.getstatic 44, 3) := by decide +kernel
theorem dJ2_getChar_3b067_3 : decode cJ2_getChar_3b067 3 = .ok (.ifCond .ne 25, 3) := by decide +kernel
theorem dJ2_getChar_3b067_6 : decode cJ2_getChar_3b067 6 = .ok (.iload_n 1, 1) := by decide +kernel
theorem dJ2_getChar_3b067_7 : decode cJ2_getChar_3b067 7 = .ok (.ifCond .lt 11, 3) := by decide +kernel
theorem dJ2_getChar_3b067_10 : decode cJ2_getChar_3b067 10 = .ok (.iload_n 1, 1) := by decide +kernel
theorem dJ2_getChar_3b067_11 : decode cJ2_getChar_3b067 11 = .ok (.aload_n 0, 1) := by decide +kernel
theorem dJ2_getChar_3b067_12 : decode cJ2_getChar_3b067 12 = .ok (.invokestatic 48, 3) := by decide +kernel
theorem dJ2_getChar_3b067_15 : decode cJ2_getChar_3b067 15 = .ok (.if_icmp .lt 13, 3) := by decide +kernel
theorem dJ2_getChar_3b067_18 : decode cJ2_getChar_3b067 18 = .ok (.new 52, 3) := by decide +kernel
theorem dJ2_getChar_3b067_21 : decode cJ2_getChar_3b067 21 = .ok (.dup, 1) := by decide +kernel
theorem dJ2_getChar_3b067_22 : decode cJ2_getChar_3b067 22 = .ok (.ldc 54, 2) := by decide +kernel
theorem dJ2_getChar_3b067_24 : decode cJ2_getChar_3b067 24 = .ok (.invokespecial 56, 3) := by decide +kernel
theorem dJ2_getChar_3b067_27 : decode cJ2_getChar_3b067 27 = .ok (.athrow, 1) := by decide +kernel
theorem dJ2_getChar_3b067_28 : decode cJ2_getChar_3b067 28 = .ok (.iload_n 1, 1) := by decide +kernel
theorem dJ2_getChar_3b067_29 : decode cJ2_getChar_3b067 29 = .ok (.iconst 1, 1) := by decide +kernel
theorem dJ2_getChar_3b067_30 : decode cJ2_getChar_3b067 30 = .ok (.ishl, 1) := by decide +kernel
theorem dJ2_getChar_3b067_31 : decode cJ2_getChar_3b067 31 = .ok (.istore_n 1, 1) := by decide +kernel
theorem dJ2_getChar_3b067_32 : decode cJ2_getChar_3b067 32 = .ok (.aload_n 0, 1) := by decide +kernel
theorem dJ2_getChar_3b067_33 : decode cJ2_getChar_3b067 33 = .ok (.iload_n 1, 1) := by decide +kernel
theorem dJ2_getChar_3b067_34 : decode cJ2_getChar_3b067 34 = .ok (.iinc 1 1, 3) := by decide +kernel
theorem dJ2_getChar_3b067_37 : decode cJ2_getChar_3b067 37 = .ok (.baload, 1) := by decide +kernel
theorem dJ2_getChar_3b067_38 : decode cJ2_getChar_3b067 38 = .ok (.sipush 255, 3) := by decide +kernel
theorem dJ2_getChar_3b067_41 : decode cJ2_getChar_3b067 41 = .ok (.iand, 1) := by decide +kernel
theorem dJ2_getChar_3b067_42 : decode cJ2_getChar_3b067 42 = .ok (.getstatic 59, 3) := by decide +kernel
theorem dJ2_getChar_3b067_45 : decode cJ2_getChar_3b067 45 = .ok (.ishl, 1) := by decide +kernel
theorem dJ2_getChar_3b067_46 : decode cJ2_getChar_3b067 46 = .ok (.aload_n 0, 1) := by decide +kernel
theorem dJ2_getChar_3b067_47 : decode cJ2_getChar_3b067 47 = .ok (.iload_n 1, 1) := by decide +kernel
theorem dJ2_getChar_3b067_48 : decode cJ2_getChar_3b067 48 = .ok (.baload, 1) := by decide +kernel
theorem dJ2_getChar_3b067_49 : decode cJ2_getChar_3b067 49 = .ok (.sipush 255, 3) := by decide +kernel
theorem dJ2_getChar_3b067_52 : decode cJ2_getChar_3b067 52 = .ok (.iand, 1) := by decide +kernel
theorem dJ2_getChar_3b067_53 : decode cJ2_getChar_3b067 53 = .ok (.getstatic 63, 3) := by decide +kernel
theorem dJ2_getChar_3b067_56 : decode cJ2_getChar_3b067 56 = .ok (.ishl, 1) := by decide +kernel
theorem dJ2_getChar_3b067_57 : decode cJ2_getChar_3b067 57 = .ok (.ior, 1) := by decide +kernel
theorem dJ2_getChar_3b067_58 : decode cJ2_getChar_3b067 58 = .ok (.i2c, 1) := by decide +kernel
theorem dJ2_getChar_3b067_59 : decode cJ2_getChar_3b067 59 = .ok (.ireturn, 1) := by decide +kernel
theorem dJ2_length_9d52b_0 : decode cJ2_length_9d52b 0 = .ok (.aload_n 0, 1) := by decide +kernel
theorem dJ2_length_9d52b_1 : decode cJ2_length_9d52b 1 = .ok (.arraylength, 1) := by decide +kernel
theorem dJ2_length_9d52b_2 : decode cJ2_length_9d52b 2 = .ok (.iconst 1, 1) := by decide +kernel
theorem dJ2_length_9d52b_3 : decode cJ2_length_9d52b 3 = .ok (.ishr, 1) := by decide +kernel
theorem dJ2_length_9d52b_4 : decode cJ2_length_9d52b 4 = .ok (.ireturn, 1) := by decide +kernel
theorem dJ2_charAt_3b067_0 : decode cJ2_charAt_3b067 0 = .ok (.iload_n 1, 1) := by decide +kernel
theorem dJ2_charAt_3b067_1 : decode cJ2_charAt_3b067 1 = .ok (.aload_n 0, 1) := by decide +kernel
theorem dJ2_charAt_3b067_2 : decode cJ2_charAt_3b067 2 = .ok (.invokestatic 67, 3) := by decide +kernel
theorem dJ2_charAt_3b067_5 : decode cJ2_charAt_3b067 5 = .ok (.aload_n 0, 1) := by decide +kernel
theorem dJ2_charAt_3b067_6 : decode cJ2_charAt_3b067 6 = .ok (.iload_n 1, 1) := by decide +kernel
theorem dJ2_charAt_3b067_7 : decode cJ2_charAt_3b067 7 = .ok (.invokestatic 71, 3) := by decide +kernel
theorem dJ2_charAt_3b067_10 : decode cJ2_charAt_3b067 10 = .ok (.ireturn, 1) := by decide +kernel
theorem dJ2_checkIndex_2214a_0 : decode cJ2_checkIndex_2214a 0 = .ok (.iload_n 0, 1) := by decide +kernel
theorem dJ2_checkIndex_2214a_1 : decode cJ2_checkIndex_2214a 1 = .ok (.aload_n 1, 1) := by decide +kernel
theorem dJ2_checkIndex_2214a_2 : decode cJ2_checkIndex_2214a 2 = .ok (.invokestatic 48, 3) := by decide +kernel
theorem dJ2_checkIndex_2214a_5 : decode cJ2_checkIndex_2214a 5 = .ok (.invokestatic 414, 3) := by decide +kernel
theorem dJ2_checkIndex_2214a_8 : decode cJ2_checkIndex_2214a 8 = .ok (.return_, 1) := by decide +kernel
theorem dJ3_checkIndex_8e157_0 : decode cJ3_checkIndex_8e157 0 = .ok (.iload_n 0, 1) := by decide +kernel
theorem dJ3_checkIndex_8e157_1 : decode cJ3_checkIndex_8e157 1 = .ok (.ifCond .lt 8, 3) := by decide +kernel
theorem dJ3_checkIndex_8e157_4 : decode cJ3_checkIndex_8e157 4 = .ok (.iload_n 0, 1) := by decide +kernel
theorem dJ3_checkIndex_8e157_5 : decode cJ3_checkIndex_8e157 5 = .ok (.iload_n 1, 1) := by decide +kernel
theorem dJ3_checkIndex_8e157_6 : decode cJ3_checkIndex_8e157 6 = .ok (.if_icmp .lt 10, 3) := by decide +kernel
theorem dJ3_checkIndex_8e157_9 : decode cJ3_checkIndex_8e157 9 = .ok (.aload_n 2, 1) := by decide +kernel
theorem dJ3_checkIndex_8e157_10 : decode cJ3_checkIndex_8e157 10 = .ok (.iload_n 0, 1) := by decide +kernel
theorem dJ3_checkIndex_8e157_11 : decode cJ3_checkIndex_8e157 11 = .ok (.iload_n 1, 1) := by decide +kernel
theorem dJ3_checkIndex_8e157_12 : decode cJ3_checkIndex_8e157 12 = .ok (.invokestatic 95, 3) := by decide +kernel
theorem dJ3_checkIndex_8e157_15 : decode cJ3_checkIndex_8e157 15 = .ok (.athrow, 1) := by decide +kernel
theorem dJ3_checkIndex_8e157_16 : decode cJ3_checkIndex_8e157 16 = .ok (.iload_n 0, 1) := by decide +kernel
theorem dJ3_checkIndex_8e157_17 : decode cJ3_checkIndex_8e157 17 = .ok (.ireturn, 1) := by decide +kernel
theorem dL_cell_0 : decode cL_cell 0 = .ok (.iload_n 1, 1) := by decide +kernel
theorem dL_cell_1 : decode cL_cell 1 = .ok (.aload_n 0, 1) := by decide +kernel
theorem dL_cell_2 : decode cL_cell 2 = .ok (.arraylength, 1) := by decide +kernel
theorem dL_cell_3 : decode cL_cell 3 = .ok (.if_icmp .ge 9, 3) := by decide +kernel
theorem dL_cell_6 : decode cL_cell 6 = .ok (.aload_n 0, 1) := by decide +kernel
theorem dL_cell_7 : decode cL_cell 7 = .ok (.iload_n 1, 1) := by decide +kernel
theorem dL_cell_8 : decode cL_cell 8 = .ok (.iaload, 1) := by decide +kernel
theorem dL_cell_9 : decode cL_cell 9 = .ok (.goto 11, 3) := by decide +kernel
theorem dL_cell_12 : decode cL_cell 12 = .ok (.sipush 16807, 3) := by decide +kernel
theorem dL_cell_15 : decode cL_cell 15 = .ok (.iload_n 1, 1) := by decide +kernel
theorem dL_cell_16 : decode cL_cell 16 = .ok (.bipush 13, 2) := by decide +kernel
theorem dL_cell_18 : decode cL_cell 18 = .ok (.iadd, 1) := by decide +kernel
theorem dL_cell_19 : decode cL_cell 19 = .ok (.imul, 1) := by decide +kernel
theorem dL_cell_20 : decode cL_cell 20 = .ok (.ldc 7, 2) := by decide +kernel
theorem dL_cell_22 : decode cL_cell 22 = .ok (.iand, 1) := by decide +kernel
theorem dL_cell_23 : decode cL_cell 23 = .ok (.ireturn, 1) := by decide +kernel
theorem dL_has_0 : decode cL_has 0 = .ok (.iload_n 0, 1) := by decide +kernel
theorem dL_has_1 : decode cL_has 1 = .ok (.iload_n 1, 1) := by decide +kernel
theorem dL_has_2 : decode cL_has 2 = .ok (.ishr, 1) := by decide +kernel
theorem dL_has_3 : decode cL_has 3 = .ok (.iconst 1, 1) := by decide +kernel
theorem dL_has_4 : decode cL_has 4 = .ok (.iand, 1) := by decide +kernel
theorem dL_has_5 : decode cL_has 5 = .ok (.iconst 1, 1) := by decide +kernel
theorem dL_has_6 : decode cL_has 6 = .ok (.if_icmp .ne 7, 3) := by decide +kernel
theorem dL_has_9 : decode cL_has 9 = .ok (.iconst 1, 1) := by decide +kernel
theorem dL_has_10 : decode cL_has 10 = .ok (.goto 4, 3) := by decide +kernel
theorem dL_has_13 : decode cL_has 13 = .ok (.iconst 0, 1) := by decide +kernel
theorem dL_has_14 : decode cL_has 14 = .ok (.ireturn, 1) := by decide +kernel
theorem dL_bits_0 : decode cL_bits 0 = .ok (.iconst 0, 1) := by decide +kernel
theorem dL_bits_1 : decode cL_bits 1 = .ok (.istore_n 1, 1) := by decide +kernel
theorem dL_bits_2 : decode cL_bits 2 = .ok (.iconst 0, 1) := by decide +kernel
theorem dL_bits_3 : decode cL_bits 3 = .ok (.istore_n 2, 1) := by decide +kernel
theorem dL_bits_4 : decode cL_bits 4 = .ok (.iload_n 2, 1) := by decide +kernel
theorem dL_bits_5 : decode cL_bits 5 = .ok (.bipush 8, 2) := by decide +kernel
theorem dL_bits_7 : decode cL_bits 7 = .ok (.if_icmp .ge 17, 3) := by decide +kernel
theorem dL_bits_10 : decode cL_bits 10 = .ok (.iload_n 1, 1) := by decide +kernel
theorem dL_bits_11 : decode cL_bits 11 = .ok (.iload_n 0, 1) := by decide +kernel
theorem dL_bits_12 : decode cL_bits 12 = .ok (.iload_n 2, 1) := by decide +kernel
theorem dL_bits_13 : decode cL_bits 13 = .ok (.ishr, 1) := by decide +kernel
theorem dL_bits_14 : decode cL_bits 14 = .ok (.iconst 1, 1) := by decide +kernel
theorem dL_bits_15 : decode cL_bits 15 = .ok (.iand, 1) := by decide +kernel
theorem dL_bits_16 : decode cL_bits 16 = .ok (.iadd, 1) := by decide +kernel
theorem dL_bits_17 : decode cL_bits 17 = .ok (.istore_n 1, 1) := by decide +kernel
theorem dL_bits_18 : decode cL_bits 18 = .ok (.iinc 2 1, 3) := by decide +kernel
theorem dL_bits_21 : decode cL_bits 21 = .ok (.goto (-17), 3) := by decide +kernel
theorem dL_bits_24 : decode cL_bits 24 = .ok (.iload_n 1, 1) := by decide +kernel
theorem dL_bits_25 : decode cL_bits 25 = .ok (.ireturn, 1) := by decide +kernel
theorem dL_word_0 : decode cL_word 0 = .ok (.iload_n 1, 1) := by decide +kernel
theorem dL_word_1 : decode cL_word 1 = .ok (.ifCond .ne 9, 3) := by decide +kernel
theorem dL_word_4 : decode cL_word 4 = .ok (.ldc2_w 8, 3) := by decide +kernel
theorem dL_word_7 : decode cL_word 7 = .ok (.goto 39, 3) := by decide +kernel
theorem dL_word_10 : decode cL_word 10 = .ok (.iload_n 1, 1) := by decide +kernel
theorem dL_word_11 : decode cL_word 11 = .ok (.iconst 1, 1) := by decide +kernel
theorem dL_word_12 : decode cL_word 12 = .ok (.if_icmp .ne 9, 3) := by decide +kernel
theorem dL_word_15 : decode cL_word 15 = .ok (.ldc2_w 10, 3) := by decide +kernel
theorem dL_word_18 : decode cL_word 18 = .ok (.goto 28, 3) := by decide +kernel
theorem dL_word_21 : decode cL_word 21 = .ok (.iload_n 1, 1) := by decide +kernel
theorem dL_word_22 : decode cL_word 22 = .ok (.iconst 2, 1) := by decide +kernel
theorem dL_word_23 : decode cL_word 23 = .ok (.if_icmp .ne 9, 3) := by decide +kernel
theorem dL_word_26 : decode cL_word 26 = .ok (.ldc2_w 12, 3) := by decide +kernel
theorem dL_word_29 : decode cL_word 29 = .ok (.goto 17, 3) := by decide +kernel
theorem dL_word_32 : decode cL_word 32 = .ok (.iload_n 1, 1) := by decide +kernel
theorem dL_word_33 : decode cL_word 33 = .ok (.iconst 3, 1) := by decide +kernel
theorem dL_word_34 : decode cL_word 34 = .ok (.if_icmp .ne 9, 3) := by decide +kernel
theorem dL_word_37 : decode cL_word 37 = .ok (.ldc2_w 14, 3) := by decide +kernel
theorem dL_word_40 : decode cL_word 40 = .ok (.goto 6, 3) := by decide +kernel
theorem dL_word_43 : decode cL_word 43 = .ok (.ldc2_w 16, 3) := by decide +kernel
theorem dL_word_46 : decode cL_word 46 = .ok (.lstore_n 2, 1) := by decide +kernel
theorem dL_word_47 : decode cL_word 47 = .ok (.iconst 4, 1) := by decide +kernel
theorem dL_word_48 : decode cL_word 48 = .ok (.istore 4, 2) := by decide +kernel
theorem dL_word_50 : decode cL_word 50 = .ok (.iload 4, 2) := by decide +kernel
theorem dL_word_52 : decode cL_word 52 = .ok (.ifCond .lt 35, 3) := by decide +kernel
theorem dL_word_55 : decode cL_word 55 = .ok (.lload_n 2, 1) := by decide +kernel
theorem dL_word_56 : decode cL_word 56 = .ok (.bipush 8, 2) := by decide +kernel
theorem dL_word_58 : decode cL_word 58 = .ok (.iload 4, 2) := by decide +kernel
theorem dL_word_60 : decode cL_word 60 = .ok (.imul, 1) := by decide +kernel
theorem dL_word_61 : decode cL_word 61 = .ok (.lshr, 1) := by decide +kernel
theorem dL_word_62 : decode cL_word 62 = .ok (.ldc2_w 18, 3) := by decide +kernel
theorem dL_word_65 : decode cL_word 65 = .ok (.land, 1) := by decide +kernel
theorem dL_word_66 : decode cL_word 66 = .ok (.l2i, 1) := by decide +kernel
theorem dL_word_67 : decode cL_word 67 = .ok (.istore 5, 2) := by decide +kernel
theorem dL_word_69 : decode cL_word 69 = .ok (.iload 5, 2) := by decide +kernel
theorem dL_word_71 : decode cL_word 71 = .ok (.ifCond .eq 10, 3) := by decide +kernel
theorem dL_word_74 : decode cL_word 74 = .ok (.aload_n 0, 1) := by decide +kernel
theorem dL_word_75 : decode cL_word 75 = .ok (.iload 5, 2) := by decide +kernel
theorem dL_word_77 : decode cL_word 77 = .ok (.invokevirtual 20, 3) := by decide +kernel
theorem dL_word_80 : decode cL_word 80 = .ok (.pop, 1) := by decide +kernel
theorem dL_word_81 : decode cL_word 81 = .ok (.iinc 4 (-1), 3) := by decide +kernel
theorem dL_word_84 : decode cL_word 84 = .ok (.goto (-34), 3) := by decide +kernel
theorem dL_word_87 : decode cL_word 87 = .ok (.return_, 1) := by decide +kernel
theorem dL_number_0 : decode cL_number 0 = .ok (.iload_n 1, 1) := by decide +kernel
theorem dL_number_1 : decode cL_number 1 = .ok (.bipush 9, 2) := by decide +kernel
theorem dL_number_3 : decode cL_number 3 = .ok (.if_icmp .le 15, 3) := by decide +kernel
theorem dL_number_6 : decode cL_number 6 = .ok (.aload_n 0, 1) := by decide +kernel
theorem dL_number_7 : decode cL_number 7 = .ok (.bipush 48, 2) := by decide +kernel
theorem dL_number_9 : decode cL_number 9 = .ok (.iload_n 1, 1) := by decide +kernel
theorem dL_number_10 : decode cL_number 10 = .ok (.bipush 10, 2) := by decide +kernel
theorem dL_number_12 : decode cL_number 12 = .ok (.idiv, 1) := by decide +kernel
theorem dL_number_13 : decode cL_number 13 = .ok (.iadd, 1) := by decide +kernel
theorem dL_number_14 : decode cL_number 14 = .ok (.invokevirtual 20, 3) := by decide +kernel
theorem dL_number_17 : decode cL_number 17 = .ok (.pop, 1) := by decide +kernel
theorem dL_number_18 : decode cL_number 18 = .ok (.aload_n 0, 1) := by decide +kernel
theorem dL_number_19 : decode cL_number 19 = .ok (.bipush 48, 2) := by decide +kernel
theorem dL_number_21 : decode cL_number 21 = .ok (.iload_n 1, 1) := by decide +kernel
theorem dL_number_22 : decode cL_number 22 = .ok (.bipush 10, 2) := by decide +kernel
theorem dL_number_24 : decode cL_number 24 = .ok (.irem, 1) := by decide +kernel
theorem dL_number_25 : decode cL_number 25 = .ok (.iadd, 1) := by decide +kernel
theorem dL_number_26 : decode cL_number 26 = .ok (.invokevirtual 20, 3) := by decide +kernel
theorem dL_number_29 : decode cL_number 29 = .ok (.pop, 1) := by decide +kernel
theorem dL_number_30 : decode cL_number 30 = .ok (.return_, 1) := by decide +kernel
theorem dL_tells_0 : decode cL_tells 0 = .ok (.aload_n 0, 1) := by decide +kernel
theorem dL_tells_1 : decode cL_tells 1 = .ok (.invokevirtual 26, 3) := by decide +kernel
theorem dL_tells_4 : decode cL_tells 4 = .ok (.pop, 1) := by decide +kernel
theorem dL_tells_5 : decode cL_tells 5 = .ok (.aload_n 0, 1) := by decide +kernel
theorem dL_tells_6 : decode cL_tells 6 = .ok (.iload_n 1, 1) := by decide +kernel
theorem dL_tells_7 : decode cL_tells 7 = .ok (.invokestatic 30, 3) := by decide +kernel
theorem dL_tells_10 : decode cL_tells 10 = .ok (.aload_n 0, 1) := by decide +kernel
theorem dL_tells_11 : decode cL_tells 11 = .ok (.bipush 32, 2) := by decide +kernel
theorem dL_tells_13 : decode cL_tells 13 = .ok (.invokevirtual 20, 3) := by decide +kernel
theorem dL_tells_16 : decode cL_tells 16 = .ok (.pop, 1) := by decide +kernel
theorem dL_tells_17 : decode cL_tells 17 = .ok (.iload_n 1, 1) := by decide +kernel
theorem dL_tells_18 : decode cL_tells 18 = .ok (.iconst 3, 1) := by decide +kernel
theorem dL_tells_19 : decode cL_tells 19 = .ok (.if_icmp .ge 12, 3) := by decide +kernel
theorem dL_tells_22 : decode cL_tells 22 = .ok (.aload_n 0, 1) := by decide +kernel
theorem dL_tells_23 : decode cL_tells 23 = .ok (.bipush 97, 2) := by decide +kernel
theorem dL_tells_25 : decode cL_tells 25 = .ok (.iload_n 2, 1) := by decide +kernel
theorem dL_tells_26 : decode cL_tells 26 = .ok (.iadd, 1) := by decide +kernel
theorem dL_tells_27 : decode cL_tells 27 = .ok (.invokevirtual 20, 3) := by decide +kernel
theorem dL_tells_30 : decode cL_tells 30 = .ok (.pop, 1) := by decide +kernel
theorem dL_tells_31 : decode cL_tells 31 = .ok (.aload_n 0, 1) := by decide +kernel
theorem dL_tells_32 : decode cL_tells 32 = .ok (.iload_n 3, 1) := by decide +kernel
theorem dL_tells_33 : decode cL_tells 33 = .ok (.invokestatic 36, 3) := by decide +kernel
theorem dL_tells_36 : decode cL_tells 36 = .ok (.aload_n 0, 1) := by decide +kernel
theorem dL_tells_37 : decode cL_tells 37 = .ok (.iload_n 1, 1) := by decide +kernel
theorem dL_tells_38 : decode cL_tells 38 = .ok (.iconst 4, 1) := by decide +kernel
theorem dL_tells_39 : decode cL_tells 39 = .ok (.if_icmp .ne 8, 3) := by decide +kernel
theorem dL_tells_42 : decode cL_tells 42 = .ok (.bipush 32, 2) := by decide +kernel
theorem dL_tells_44 : decode cL_tells 44 = .ok (.goto 5, 3) := by decide +kernel
theorem dL_tells_47 : decode cL_tells 47 = .ok (.bipush 45, 2) := by decide +kernel
theorem dL_tells_49 : decode cL_tells 49 = .ok (.invokevirtual 20, 3) := by decide +kernel
theorem dL_tells_52 : decode cL_tells 52 = .ok (.pop, 1) := by decide +kernel
theorem dL_tells_53 : decode cL_tells 53 = .ok (.aload_n 0, 1) := by decide +kernel
theorem dL_tells_54 : decode cL_tells 54 = .ok (.iload 4, 2) := by decide +kernel
theorem dL_tells_56 : decode cL_tells 56 = .ok (.invokestatic 36, 3) := by decide +kernel
theorem dL_tells_59 : decode cL_tells 59 = .ok (.return_, 1) := by decide +kernel
theorem dL_viewHolds_0 : decode cL_viewHolds 0 = .ok (.aload_n 0, 1) := by decide +kernel
theorem dL_viewHolds_1 : decode cL_viewHolds 1 = .ok (.iload_n 1, 1) := by decide +kernel
theorem dL_viewHolds_2 : decode cL_viewHolds 2 = .ok (.iconst 4, 1) := by decide +kernel
theorem dL_viewHolds_3 : decode cL_viewHolds 3 = .ok (.invokevirtual 39, 3) := by decide +kernel
theorem dL_viewHolds_6 : decode cL_viewHolds 6 = .ok (.iconst 1, 1) := by decide +kernel
theorem dL_viewHolds_7 : decode cL_viewHolds 7 = .ok (.if_icmp .ne 7, 3) := by decide +kernel
theorem dL_viewHolds_10 : decode cL_viewHolds 10 = .ok (.iconst 1, 1) := by decide +kernel
theorem dL_viewHolds_11 : decode cL_viewHolds 11 = .ok (.goto 4, 3) := by decide +kernel
theorem dL_viewHolds_14 : decode cL_viewHolds 14 = .ok (.iconst 0, 1) := by decide +kernel
theorem dL_viewHolds_15 : decode cL_viewHolds 15 = .ok (.istore_n 2, 1) := by decide +kernel
theorem dL_viewHolds_16 : decode cL_viewHolds 16 = .ok (.aload_n 0, 1) := by decide +kernel
theorem dL_viewHolds_17 : decode cL_viewHolds 17 = .ok (.iload_n 1, 1) := by decide +kernel
theorem dL_viewHolds_18 : decode cL_viewHolds 18 = .ok (.iconst 0, 1) := by decide +kernel
theorem dL_viewHolds_19 : decode cL_viewHolds 19 = .ok (.invokevirtual 39, 3) := by decide +kernel
theorem dL_viewHolds_22 : decode cL_viewHolds 22 = .ok (.istore_n 3, 1) := by decide +kernel
theorem dL_viewHolds_23 : decode cL_viewHolds 23 = .ok (.aload_n 0, 1) := by decide +kernel
theorem dL_viewHolds_24 : decode cL_viewHolds 24 = .ok (.iload_n 1, 1) := by decide +kernel
theorem dL_viewHolds_25 : decode cL_viewHolds 25 = .ok (.iconst 5, 1) := by decide +kernel
theorem dL_viewHolds_26 : decode cL_viewHolds 26 = .ok (.invokevirtual 39, 3) := by decide +kernel
theorem dL_viewHolds_29 : decode cL_viewHolds 29 = .ok (.istore 4, 2) := by decide +kernel
theorem dL_viewHolds_31 : decode cL_viewHolds 31 = .ok (.aload_n 0, 1) := by decide +kernel
theorem dL_viewHolds_32 : decode cL_viewHolds 32 = .ok (.iconst 0, 1) := by decide +kernel
theorem dL_viewHolds_33 : decode cL_viewHolds 33 = .ok (.invokevirtual 43, 3) := by decide +kernel
theorem dL_viewHolds_36 : decode cL_viewHolds 36 = .ok (.istore 5, 2) := by decide +kernel
theorem dL_viewHolds_38 : decode cL_viewHolds 38 = .ok (.iconst 0, 1) := by decide +kernel
theorem dL_viewHolds_39 : decode cL_viewHolds 39 = .ok (.istore 6, 2) := by decide +kernel
theorem dL_viewHolds_41 : decode cL_viewHolds 41 = .ok (.iload_n 2, 1) := by decide +kernel
theorem dL_viewHolds_42 : decode cL_viewHolds 42 = .ok (.ifCond .eq 8, 3) := by decide +kernel
theorem dL_viewHolds_45 : decode cL_viewHolds 45 = .ok (.iload 5, 2) := by decide +kernel
theorem dL_viewHolds_47 : decode cL_viewHolds 47 = .ok (.goto 5, 3) := by decide +kernel
theorem dL_viewHolds_50 : decode cL_viewHolds 50 = .ok (.iload 4, 2) := by decide +kernel
theorem dL_viewHolds_52 : decode cL_viewHolds 52 = .ok (.istore 7, 2) := by decide +kernel
theorem dL_viewHolds_54 : decode cL_viewHolds 54 = .ok (.iload 7, 2) := by decide +kernel
theorem dL_viewHolds_56 : decode cL_viewHolds 56 = .ok (.iload 5, 2) := by decide +kernel
theorem dL_viewHolds_58 : decode cL_viewHolds 58 = .ok (.if_icmp .ge 33, 3) := by decide +kernel
theorem dL_viewHolds_61 : decode cL_viewHolds 61 = .ok (.iload 6, 2) := by decide +kernel
theorem dL_viewHolds_63 : decode cL_viewHolds 63 = .ok (.aload_n 0, 1) := by decide +kernel
theorem dL_viewHolds_64 : decode cL_viewHolds 64 = .ok (.iload 7, 2) := by decide +kernel
theorem dL_viewHolds_66 : decode cL_viewHolds 66 = .ok (.iconst 3, 1) := by decide +kernel
theorem dL_viewHolds_67 : decode cL_viewHolds 67 = .ok (.invokevirtual 46, 3) := by decide +kernel
theorem dL_viewHolds_70 : decode cL_viewHolds 70 = .ok (.iload_n 1, 1) := by decide +kernel
theorem dL_viewHolds_71 : decode cL_viewHolds 71 = .ok (.invokestatic 49, 3) := by decide +kernel
theorem dL_viewHolds_74 : decode cL_viewHolds 74 = .ok (.ifCond .eq 7, 3) := by decide +kernel
theorem dL_viewHolds_77 : decode cL_viewHolds 77 = .ok (.iconst 1, 1) := by decide +kernel
theorem dL_viewHolds_78 : decode cL_viewHolds 78 = .ok (.goto 4, 3) := by decide +kernel
theorem dL_viewHolds_81 : decode cL_viewHolds 81 = .ok (.iconst 0, 1) := by decide +kernel
theorem dL_viewHolds_82 : decode cL_viewHolds 82 = .ok (.iadd, 1) := by decide +kernel
theorem dL_viewHolds_83 : decode cL_viewHolds 83 = .ok (.istore 6, 2) := by decide +kernel
theorem dL_viewHolds_85 : decode cL_viewHolds 85 = .ok (.iinc 7 1, 3) := by decide +kernel
theorem dL_viewHolds_88 : decode cL_viewHolds 88 = .ok (.goto (-34), 3) := by decide +kernel
theorem dL_viewHolds_91 : decode cL_viewHolds 91 = .ok (.aload_n 0, 1) := by decide +kernel
theorem dL_viewHolds_92 : decode cL_viewHolds 92 = .ok (.bipush 18, 2) := by decide +kernel
theorem dL_viewHolds_94 : decode cL_viewHolds 94 = .ok (.invokevirtual 43, 3) := by decide +kernel
theorem dL_viewHolds_97 : decode cL_viewHolds 97 = .ok (.iload_n 3, 1) := by decide +kernel
theorem dL_viewHolds_98 : decode cL_viewHolds 98 = .ok (.iconst 2, 1) := by decide +kernel
theorem dL_viewHolds_99 : decode cL_viewHolds 99 = .ok (.if_icmp .le 7, 3) := by decide +kernel
theorem dL_viewHolds_102 : decode cL_viewHolds 102 = .ok (.iconst 2, 1) := by decide +kernel
theorem dL_viewHolds_103 : decode cL_viewHolds 103 = .ok (.goto 4, 3) := by decide +kernel
theorem dL_viewHolds_106 : decode cL_viewHolds 106 = .ok (.iconst 1, 1) := by decide +kernel
theorem dL_viewHolds_107 : decode cL_viewHolds 107 = .ok (.imul, 1) := by decide +kernel
theorem dL_viewHolds_108 : decode cL_viewHolds 108 = .ok (.istore 7, 2) := by decide +kernel
theorem dL_viewHolds_110 : decode cL_viewHolds 110 = .ok (.aload_n 0, 1) := by decide +kernel
theorem dL_viewHolds_111 : decode cL_viewHolds 111 = .ok (.iload_n 1, 1) := by decide +kernel
theorem dL_viewHolds_112 : decode cL_viewHolds 112 = .ok (.bipush 6, 2) := by decide +kernel
theorem dL_viewHolds_114 : decode cL_viewHolds 114 = .ok (.invokevirtual 39, 3) := by decide +kernel
theorem dL_viewHolds_117 : decode cL_viewHolds 117 = .ok (.iload 6, 2) := by decide +kernel
theorem dL_viewHolds_119 : decode cL_viewHolds 119 = .ok (.if_icmp .ne 67, 3) := by decide +kernel
theorem dL_viewHolds_122 : decode cL_viewHolds 122 = .ok (.aload_n 0, 1) := by decide +kernel
theorem dL_viewHolds_123 : decode cL_viewHolds 123 = .ok (.iload_n 1, 1) := by decide +kernel
theorem dL_viewHolds_124 : decode cL_viewHolds 124 = .ok (.bipush 8, 2) := by decide +kernel
theorem dL_viewHolds_126 : decode cL_viewHolds 126 = .ok (.invokevirtual 39, 3) := by decide +kernel
theorem dL_viewHolds_129 : decode cL_viewHolds 129 = .ok (.aload_n 0, 1) := by decide +kernel
theorem dL_viewHolds_130 : decode cL_viewHolds 130 = .ok (.iload_n 1, 1) := by decide +kernel
theorem dL_viewHolds_131 : decode cL_viewHolds 131 = .ok (.bipush 7, 2) := by decide +kernel
theorem dL_viewHolds_133 : decode cL_viewHolds 133 = .ok (.invokevirtual 39, 3) := by decide +kernel
theorem dL_viewHolds_136 : decode cL_viewHolds 136 = .ok (.iload 7, 2) := by decide +kernel
theorem dL_viewHolds_138 : decode cL_viewHolds 138 = .ok (.iload 6, 2) := by decide +kernel
theorem dL_viewHolds_140 : decode cL_viewHolds 140 = .ok (.imul, 1) := by decide +kernel
theorem dL_viewHolds_141 : decode cL_viewHolds 141 = .ok (.iadd, 1) := by decide +kernel
theorem dL_viewHolds_142 : decode cL_viewHolds 142 = .ok (.if_icmp .ne 44, 3) := by decide +kernel
theorem dL_viewHolds_145 : decode cL_viewHolds 145 = .ok (.aload_n 0, 1) := by decide +kernel
theorem dL_viewHolds_146 : decode cL_viewHolds 146 = .ok (.iload_n 1, 1) := by decide +kernel
theorem dL_viewHolds_147 : decode cL_viewHolds 147 = .ok (.bipush 7, 2) := by decide +kernel
theorem dL_viewHolds_149 : decode cL_viewHolds 149 = .ok (.invokevirtual 39, 3) := by decide +kernel
theorem dL_viewHolds_152 : decode cL_viewHolds 152 = .ok (.ifCond .lt 34, 3) := by decide +kernel
theorem dL_viewHolds_155 : decode cL_viewHolds 155 = .ok (.aload_n 0, 1) := by decide +kernel
theorem dL_viewHolds_156 : decode cL_viewHolds 156 = .ok (.iload_n 1, 1) := by decide +kernel
theorem dL_viewHolds_157 : decode cL_viewHolds 157 = .ok (.iconst 1, 1) := by decide +kernel
theorem dL_viewHolds_158 : decode cL_viewHolds 158 = .ok (.invokevirtual 39, 3) := by decide +kernel
theorem dL_viewHolds_161 : decode cL_viewHolds 161 = .ok (.ifCond .lt 7, 3) := by decide +kernel
theorem dL_viewHolds_164 : decode cL_viewHolds 164 = .ok (.iconst 1, 1) := by decide +kernel
theorem dL_viewHolds_165 : decode cL_viewHolds 165 = .ok (.goto 4, 3) := by decide +kernel
theorem dL_viewHolds_168 : decode cL_viewHolds 168 = .ok (.iconst 0, 1) := by decide +kernel
theorem dL_viewHolds_169 : decode cL_viewHolds 169 = .ok (.iload_n 3, 1) := by decide +kernel
theorem dL_viewHolds_170 : decode cL_viewHolds 170 = .ok (.iconst 3, 1) := by decide +kernel
theorem dL_viewHolds_171 : decode cL_viewHolds 171 = .ok (.if_icmp .ge 7, 3) := by decide +kernel
theorem dL_viewHolds_174 : decode cL_viewHolds 174 = .ok (.iconst 1, 1) := by decide +kernel
theorem dL_viewHolds_175 : decode cL_viewHolds 175 = .ok (.goto 4, 3) := by decide +kernel
theorem dL_viewHolds_178 : decode cL_viewHolds 178 = .ok (.iconst 0, 1) := by decide +kernel
theorem dL_viewHolds_179 : decode cL_viewHolds 179 = .ok (.if_icmp .ne 7, 3) := by decide +kernel
theorem dL_viewHolds_182 : decode cL_viewHolds 182 = .ok (.iconst 1, 1) := by decide +kernel
theorem dL_viewHolds_183 : decode cL_viewHolds 183 = .ok (.goto 4, 3) := by decide +kernel
theorem dL_viewHolds_186 : decode cL_viewHolds 186 = .ok (.iconst 0, 1) := by decide +kernel
theorem dL_viewHolds_187 : decode cL_viewHolds 187 = .ok (.istore 8, 2) := by decide +kernel
theorem dL_viewHolds_189 : decode cL_viewHolds 189 = .ok (.iload_n 2, 1) := by decide +kernel
theorem dL_viewHolds_190 : decode cL_viewHolds 190 = .ok (.ifCond .eq 51, 3) := by decide +kernel
theorem dL_viewHolds_193 : decode cL_viewHolds 193 = .ok (.iload 8, 2) := by decide +kernel
theorem dL_viewHolds_195 : decode cL_viewHolds 195 = .ok (.ifCond .eq 44, 3) := by decide +kernel
theorem dL_viewHolds_198 : decode cL_viewHolds 198 = .ok (.iload 4, 2) := by decide +kernel
theorem dL_viewHolds_200 : decode cL_viewHolds 200 = .ok (.ldc 53, 2) := by decide +kernel
theorem dL_viewHolds_202 : decode cL_viewHolds 202 = .ok (.if_icmp .ne 37, 3) := by decide +kernel
theorem dL_viewHolds_205 : decode cL_viewHolds 205 = .ok (.aload_n 0, 1) := by decide +kernel
theorem dL_viewHolds_206 : decode cL_viewHolds 206 = .ok (.iload_n 1, 1) := by decide +kernel
theorem dL_viewHolds_207 : decode cL_viewHolds 207 = .ok (.bipush 7, 2) := by decide +kernel
theorem dL_viewHolds_209 : decode cL_viewHolds 209 = .ok (.invokevirtual 39, 3) := by decide +kernel
theorem dL_viewHolds_212 : decode cL_viewHolds 212 = .ok (.ifCond .ne 27, 3) := by decide +kernel
theorem dL_viewHolds_215 : decode cL_viewHolds 215 = .ok (.aload_n 0, 1) := by decide +kernel
theorem dL_viewHolds_216 : decode cL_viewHolds 216 = .ok (.iload_n 1, 1) := by decide +kernel
theorem dL_viewHolds_217 : decode cL_viewHolds 217 = .ok (.invokevirtual 54, 3) := by decide +kernel
theorem dL_viewHolds_220 : decode cL_viewHolds 220 = .ok (.ldc 57, 2) := by decide +kernel
theorem dL_viewHolds_222 : decode cL_viewHolds 222 = .ok (.if_icmp .ne 17, 3) := by decide +kernel
theorem dL_viewHolds_225 : decode cL_viewHolds 225 = .ok (.aload_n 0, 1) := by decide +kernel
theorem dL_viewHolds_226 : decode cL_viewHolds 226 = .ok (.iload_n 1, 1) := by decide +kernel
theorem dL_viewHolds_227 : decode cL_viewHolds 227 = .ok (.invokevirtual 58, 3) := by decide +kernel
theorem dL_viewHolds_230 : decode cL_viewHolds 230 = .ok (.ldc 57, 2) := by decide +kernel
theorem dL_viewHolds_232 : decode cL_viewHolds 232 = .ok (.if_icmp .ne 7, 3) := by decide +kernel
theorem dL_viewHolds_235 : decode cL_viewHolds 235 = .ok (.iconst 1, 1) := by decide +kernel
theorem dL_viewHolds_236 : decode cL_viewHolds 236 = .ok (.goto 4, 3) := by decide +kernel
theorem dL_viewHolds_239 : decode cL_viewHolds 239 = .ok (.iconst 0, 1) := by decide +kernel
theorem dL_viewHolds_240 : decode cL_viewHolds 240 = .ok (.ireturn, 1) := by decide +kernel
theorem dL_viewHolds_241 : decode cL_viewHolds 241 = .ok (.iload 8, 2) := by decide +kernel
theorem dL_viewHolds_243 : decode cL_viewHolds 243 = .ok (.ifCond .eq 56, 3) := by decide +kernel
theorem dL_viewHolds_246 : decode cL_viewHolds 246 = .ok (.iload 4, 2) := by decide +kernel
theorem dL_viewHolds_248 : decode cL_viewHolds 248 = .ok (.ifCond .lt 51, 3) := by decide +kernel
theorem dL_viewHolds_251 : decode cL_viewHolds 251 = .ok (.iload 4, 2) := by decide +kernel
theorem dL_viewHolds_253 : decode cL_viewHolds 253 = .ok (.iload 5, 2) := by decide +kernel
theorem dL_viewHolds_255 : decode cL_viewHolds 255 = .ok (.if_icmp .gt 44, 3) := by decide +kernel
theorem dL_viewHolds_258 : decode cL_viewHolds 258 = .ok (.aload_n 0, 1) := by decide +kernel
theorem dL_viewHolds_259 : decode cL_viewHolds 259 = .ok (.iload_n 1, 1) := by decide +kernel
theorem dL_viewHolds_260 : decode cL_viewHolds 260 = .ok (.invokevirtual 54, 3) := by decide +kernel
theorem dL_viewHolds_263 : decode cL_viewHolds 263 = .ok (.aload_n 0, 1) := by decide +kernel
theorem dL_viewHolds_264 : decode cL_viewHolds 264 = .ok (.iload_n 1, 1) := by decide +kernel
theorem dL_viewHolds_265 : decode cL_viewHolds 265 = .ok (.iload 4, 2) := by decide +kernel
theorem dL_viewHolds_267 : decode cL_viewHolds 267 = .ok (.iconst 0, 1) := by decide +kernel
theorem dL_viewHolds_268 : decode cL_viewHolds 268 = .ok (.invokevirtual 61, 3) := by decide +kernel
theorem dL_viewHolds_271 : decode cL_viewHolds 271 = .ok (.if_icmp .ne 28, 3) := by decide +kernel
theorem dL_viewHolds_274 : decode cL_viewHolds 274 = .ok (.iload 6, 2) := by decide +kernel
theorem dL_viewHolds_276 : decode cL_viewHolds 276 = .ok (.ifCond .gt 19, 3) := by decide +kernel
theorem dL_viewHolds_279 : decode cL_viewHolds 279 = .ok (.aload_n 0, 1) := by decide +kernel
theorem dL_viewHolds_280 : decode cL_viewHolds 280 = .ok (.iload_n 1, 1) := by decide +kernel
theorem dL_viewHolds_281 : decode cL_viewHolds 281 = .ok (.invokevirtual 54, 3) := by decide +kernel
theorem dL_viewHolds_284 : decode cL_viewHolds 284 = .ok (.aload_n 0, 1) := by decide +kernel
theorem dL_viewHolds_285 : decode cL_viewHolds 285 = .ok (.iload_n 1, 1) := by decide +kernel
theorem dL_viewHolds_286 : decode cL_viewHolds 286 = .ok (.iload 5, 2) := by decide +kernel
theorem dL_viewHolds_288 : decode cL_viewHolds 288 = .ok (.iconst 1, 1) := by decide +kernel
theorem dL_viewHolds_289 : decode cL_viewHolds 289 = .ok (.invokevirtual 61, 3) := by decide +kernel
theorem dL_viewHolds_292 : decode cL_viewHolds 292 = .ok (.if_icmp .ne 7, 3) := by decide +kernel
theorem dL_viewHolds_295 : decode cL_viewHolds 295 = .ok (.iconst 1, 1) := by decide +kernel
theorem dL_viewHolds_296 : decode cL_viewHolds 296 = .ok (.goto 4, 3) := by decide +kernel
theorem dL_viewHolds_299 : decode cL_viewHolds 299 = .ok (.iconst 0, 1) := by decide +kernel
theorem dL_viewHolds_300 : decode cL_viewHolds 300 = .ok (.ireturn, 1) := by decide +kernel
theorem dL_holds_0 : decode cL_holds 0 = .ok (.iconst 0, 1) := by decide +kernel
theorem dL_holds_1 : decode cL_holds 1 = .ok (.istore_n 1, 1) := by decide +kernel
theorem dL_holds_2 : decode cL_holds 2 = .ok (.iconst 0, 1) := by decide +kernel
theorem dL_holds_3 : decode cL_holds 3 = .ok (.istore_n 2, 1) := by decide +kernel
theorem dL_holds_4 : decode cL_holds 4 = .ok (.iconst 0, 1) := by decide +kernel
theorem dL_holds_5 : decode cL_holds 5 = .ok (.istore_n 3, 1) := by decide +kernel
theorem dL_holds_6 : decode cL_holds 6 = .ok (.iconst 0, 1) := by decide +kernel
theorem dL_holds_7 : decode cL_holds 7 = .ok (.istore 4, 2) := by decide +kernel
theorem dL_holds_9 : decode cL_holds 9 = .ok (.iconst 1, 1) := by decide +kernel
theorem dL_holds_10 : decode cL_holds 10 = .ok (.istore 5, 2) := by decide +kernel
theorem dL_holds_12 : decode cL_holds 12 = .ok (.iconst 0, 1) := by decide +kernel
theorem dL_holds_13 : decode cL_holds 13 = .ok (.istore 6, 2) := by decide +kernel
theorem dL_holds_15 : decode cL_holds 15 = .ok (.iload 6, 2) := by decide +kernel
theorem dL_holds_17 : decode cL_holds 17 = .ok (.aload_n 0, 1) := by decide +kernel
theorem dL_holds_18 : decode cL_holds 18 = .ok (.iconst 2, 1) := by decide +kernel
theorem dL_holds_19 : decode cL_holds 19 = .ok (.invokevirtual 43, 3) := by decide +kernel
theorem dL_holds_22 : decode cL_holds 22 = .ok (.if_icmp .ge 130, 3) := by decide +kernel
theorem dL_holds_25 : decode cL_holds 25 = .ok (.iload 5, 2) := by decide +kernel
theorem dL_holds_27 : decode cL_holds 27 = .ok (.ifCond .eq 125, 3) := by decide +kernel
theorem dL_holds_30 : decode cL_holds 30 = .ok (.aload_n 0, 1) := by decide +kernel
theorem dL_holds_31 : decode cL_holds 31 = .ok (.iconst 3, 1) := by decide +kernel
theorem dL_holds_32 : decode cL_holds 32 = .ok (.invokevirtual 43, 3) := by decide +kernel
theorem dL_holds_35 : decode cL_holds 35 = .ok (.iload 6, 2) := by decide +kernel
theorem dL_holds_37 : decode cL_holds 37 = .ok (.invokestatic 49, 3) := by decide +kernel
theorem dL_holds_40 : decode cL_holds 40 = .ok (.ifCond .ne 25, 3) := by decide +kernel
theorem dL_holds_43 : decode cL_holds 43 = .ok (.aload_n 0, 1) := by decide +kernel
theorem dL_holds_44 : decode cL_holds 44 = .ok (.iload 6, 2) := by decide +kernel
theorem dL_holds_46 : decode cL_holds 46 = .ok (.iconst 0, 1) := by decide +kernel
theorem dL_holds_47 : decode cL_holds 47 = .ok (.invokevirtual 39, 3) := by decide +kernel
theorem dL_holds_50 : decode cL_holds 50 = .ok (.ldc 65, 2) := by decide +kernel
theorem dL_holds_52 : decode cL_holds 52 = .ok (.if_icmp .ne 7, 3) := by decide +kernel
theorem dL_holds_55 : decode cL_holds 55 = .ok (.iconst 1, 1) := by decide +kernel
theorem dL_holds_56 : decode cL_holds 56 = .ok (.goto 4, 3) := by decide +kernel
theorem dL_holds_59 : decode cL_holds 59 = .ok (.iconst 0, 1) := by decide +kernel
theorem dL_holds_60 : decode cL_holds 60 = .ok (.istore 5, 2) := by decide +kernel
theorem dL_holds_62 : decode cL_holds 62 = .ok (.goto 84, 3) := by decide +kernel
theorem dL_holds_65 : decode cL_holds 65 = .ok (.iload_n 1, 1) := by decide +kernel
theorem dL_holds_66 : decode cL_holds 66 = .ok (.aload_n 0, 1) := by decide +kernel
theorem dL_holds_67 : decode cL_holds 67 = .ok (.iload 6, 2) := by decide +kernel
theorem dL_holds_69 : decode cL_holds 69 = .ok (.bipush 7, 2) := by decide +kernel
theorem dL_holds_71 : decode cL_holds 71 = .ok (.invokevirtual 39, 3) := by decide +kernel
theorem dL_holds_74 : decode cL_holds 74 = .ok (.iadd, 1) := by decide +kernel
theorem dL_holds_75 : decode cL_holds 75 = .ok (.istore_n 1, 1) := by decide +kernel
theorem dL_holds_76 : decode cL_holds 76 = .ok (.iload_n 3, 1) := by decide +kernel
theorem dL_holds_77 : decode cL_holds 77 = .ok (.aload_n 0, 1) := by decide +kernel
theorem dL_holds_78 : decode cL_holds 78 = .ok (.iload 6, 2) := by decide +kernel
theorem dL_holds_80 : decode cL_holds 80 = .ok (.bipush 6, 2) := by decide +kernel
theorem dL_holds_82 : decode cL_holds 82 = .ok (.invokevirtual 39, 3) := by decide +kernel
