/-! decode rows -/
theorem d_LW_deal_0 : decode b_LW_deal 0 = .ok (.aload_n 0, 1) := by decide +kernel
theorem d_LW_deal_1 : decode b_LW_deal 1 = .ok (.iload_n 1, 1) := by decide +kernel
theorem d_LW_deal_2 : decode b_LW_deal 2 = .ok (.iload_n 2, 1) := by decide +kernel
theorem d_LW_deal_3 : decode b_LW_deal 3 = .ok (.iload_n 3, 1) := by decide +kernel
theorem d_LW_deal_4 : decode b_LW_deal 4 = .ok (.iload 4, 2) := by decide +kernel
theorem d_LW_deal_6 : decode b_LW_deal 6 = .ok (.iload 5, 2) := by decide +kernel
theorem d_LW_deal_8 : decode b_LW_deal 8 = .ok (.invokevirtual 7, 3) := by decide +kernel
theorem d_LW_deal_11 : decode b_LW_deal 11 = .ok (.goto 7, 3) := by decide +kernel
theorem d_LW_deal_14 : decode b_LW_deal 14 = .ok (.astore 6, 2) := by decide +kernel
theorem d_LW_deal_16 : decode b_LW_deal 16 = .ok (.iconst 1, 1) := by decide +kernel
theorem d_LW_deal_17 : decode b_LW_deal 17 = .ok (.ireturn, 1) := by decide +kernel
theorem d_LW_deal_18 : decode b_LW_deal 18 = .ok (.iconst 0, 1) := by decide +kernel
theorem d_LW_deal_19 : decode b_LW_deal 19 = .ok (.ireturn, 1) := by decide +kernel
theorem d_LW_put_0 : decode b_LW_put 0 = .ok (.aload_n 3, 1) := by decide +kernel
theorem d_LW_put_1 : decode b_LW_put 1 = .ok (.iconst 0, 1) := by decide +kernel
theorem d_LW_put_2 : decode b_LW_put 2 = .ok (.aload_n 0, 1) := by decide +kernel
theorem d_LW_put_3 : decode b_LW_put 3 = .ok (.iload_n 1, 1) := by decide +kernel
theorem d_LW_put_4 : decode b_LW_put 4 = .ok (.iload_n 2, 1) := by decide +kernel
theorem d_LW_put_5 : decode b_LW_put 5 = .ok (.invokevirtual 15, 3) := by decide +kernel
theorem d_LW_put_8 : decode b_LW_put 8 = .ok (.i2l, 1) := by decide +kernel
theorem d_LW_put_9 : decode b_LW_put 9 = .ok (.lastore, 1) := by decide +kernel
theorem d_LW_put_10 : decode b_LW_put 10 = .ok (.goto 7, 3) := by decide +kernel
theorem d_LW_put_13 : decode b_LW_put 13 = .ok (.astore 4, 2) := by decide +kernel
theorem d_LW_put_15 : decode b_LW_put 15 = .ok (.iconst 1, 1) := by decide +kernel
theorem d_LW_put_16 : decode b_LW_put 16 = .ok (.ireturn, 1) := by decide +kernel
theorem d_LW_put_17 : decode b_LW_put 17 = .ok (.iconst 0, 1) := by decide +kernel
theorem d_LW_put_18 : decode b_LW_put 18 = .ok (.ireturn, 1) := by decide +kernel
theorem d_LW_motion_0 : decode b_LW_motion 0 = .ok (.aload_n 1, 1) := by decide +kernel
theorem d_LW_motion_1 : decode b_LW_motion 1 = .ok (.iconst 0, 1) := by decide +kernel
theorem d_LW_motion_2 : decode b_LW_motion 2 = .ok (.aload_n 0, 1) := by decide +kernel
theorem d_LW_motion_3 : decode b_LW_motion 3 = .ok (.invokevirtual 19, 3) := by decide +kernel
theorem d_LW_motion_6 : decode b_LW_motion 6 = .ok (.i2l, 1) := by decide +kernel
theorem d_LW_motion_7 : decode b_LW_motion 7 = .ok (.lastore, 1) := by decide +kernel
theorem d_LW_motion_8 : decode b_LW_motion 8 = .ok (.goto 6, 3) := by decide +kernel
theorem d_LW_motion_11 : decode b_LW_motion 11 = .ok (.astore_n 2, 1) := by decide +kernel
theorem d_LW_motion_12 : decode b_LW_motion 12 = .ok (.iconst 1, 1) := by decide +kernel
theorem d_LW_motion_13 : decode b_LW_motion 13 = .ok (.ireturn, 1) := by decide +kernel
theorem d_LW_motion_14 : decode b_LW_motion 14 = .ok (.iconst 0, 1) := by decide +kernel
theorem d_LW_motion_15 : decode b_LW_motion 15 = .ok (.ireturn, 1) := by decide +kernel
theorem d_LW_consent_0 : decode b_LW_consent 0 = .ok (.aload_n 0, 1) := by decide +kernel
theorem d_LW_consent_1 : decode b_LW_consent 1 = .ok (.iload_n 1, 1) := by decide +kernel
theorem d_LW_consent_2 : decode b_LW_consent 2 = .ok (.iload_n 2, 1) := by decide +kernel
theorem d_LW_consent_3 : decode b_LW_consent 3 = .ok (.invokevirtual 25, 3) := by decide +kernel
theorem d_LW_consent_6 : decode b_LW_consent 6 = .ok (.goto 9, 3) := by decide +kernel
theorem d_LW_consent_9 : decode b_LW_consent 9 = .ok (.astore_n 3, 1) := by decide +kernel
theorem d_LW_consent_10 : decode b_LW_consent 10 = .ok (.iconst 1, 1) := by decide +kernel
theorem d_LW_consent_11 : decode b_LW_consent 11 = .ok (.ireturn, 1) := by decide +kernel
theorem d_LW_consent_12 : decode b_LW_consent 12 = .ok (.astore_n 3, 1) := by decide +kernel
theorem d_LW_consent_13 : decode b_LW_consent 13 = .ok (.iconst 2, 1) := by decide +kernel
theorem d_LW_consent_14 : decode b_LW_consent 14 = .ok (.ireturn, 1) := by decide +kernel
theorem d_LW_consent_15 : decode b_LW_consent 15 = .ok (.iconst 0, 1) := by decide +kernel
theorem d_LW_consent_16 : decode b_LW_consent 16 = .ok (.ireturn, 1) := by decide +kernel
theorem d_LW_object_0 : decode b_LW_object 0 = .ok (.aload_n 0, 1) := by decide +kernel
theorem d_LW_object_1 : decode b_LW_object 1 = .ok (.iload_n 1, 1) := by decide +kernel
theorem d_LW_object_2 : decode b_LW_object 2 = .ok (.iload_n 2, 1) := by decide +kernel
theorem d_LW_object_3 : decode b_LW_object 3 = .ok (.invokevirtual 31, 3) := by decide +kernel
theorem d_LW_object_6 : decode b_LW_object 6 = .ok (.goto 9, 3) := by decide +kernel
theorem d_LW_object_9 : decode b_LW_object 9 = .ok (.astore_n 3, 1) := by decide +kernel
theorem d_LW_object_10 : decode b_LW_object 10 = .ok (.iconst 1, 1) := by decide +kernel
theorem d_LW_object_11 : decode b_LW_object 11 = .ok (.ireturn, 1) := by decide +kernel
theorem d_LW_object_12 : decode b_LW_object 12 = .ok (.astore_n 3, 1) := by decide +kernel
theorem d_LW_object_13 : decode b_LW_object 13 = .ok (.iconst 2, 1) := by decide +kernel
theorem d_LW_object_14 : decode b_LW_object 14 = .ok (.ireturn, 1) := by decide +kernel
theorem d_LW_object_15 : decode b_LW_object 15 = .ok (.iconst 0, 1) := by decide +kernel
theorem d_LW_object_16 : decode b_LW_object 16 = .ok (.ireturn, 1) := by decide +kernel
theorem d_LW_file_0 : decode b_LW_file 0 = .ok (.aload_n 0, 1) := by decide +kernel
theorem d_LW_file_1 : decode b_LW_file 1 = .ok (.iload_n 1, 1) := by decide +kernel
theorem d_LW_file_2 : decode b_LW_file 2 = .ok (.iload_n 2, 1) := by decide +kernel
theorem d_LW_file_3 : decode b_LW_file 3 = .ok (.lload_n 3, 1) := by decide +kernel
theorem d_LW_file_4 : decode b_LW_file 4 = .ok (.iload 5, 2) := by decide +kernel
theorem d_LW_file_6 : decode b_LW_file 6 = .ok (.lload 6, 2) := by decide +kernel
theorem d_LW_file_8 : decode b_LW_file 8 = .ok (.invokevirtual 34, 3) := by decide +kernel
theorem d_LW_file_11 : decode b_LW_file 11 = .ok (.goto 11, 3) := by decide +kernel
theorem d_LW_file_14 : decode b_LW_file 14 = .ok (.astore 8, 2) := by decide +kernel
theorem d_LW_file_16 : decode b_LW_file 16 = .ok (.iconst 1, 1) := by decide +kernel
theorem d_LW_file_17 : decode b_LW_file 17 = .ok (.ireturn, 1) := by decide +kernel
theorem d_LW_file_18 : decode b_LW_file 18 = .ok (.astore 8, 2) := by decide +kernel
theorem d_LW_file_20 : decode b_LW_file 20 = .ok (.iconst 2, 1) := by decide +kernel
theorem d_LW_file_21 : decode b_LW_file 21 = .ok (.ireturn, 1) := by decide +kernel
theorem d_LW_file_22 : decode b_LW_file 22 = .ok (.iconst 0, 1) := by decide +kernel
theorem d_LW_file_23 : decode b_LW_file 23 = .ok (.ireturn, 1) := by decide +kernel
theorem d_LW_partial_0 : decode b_LW_partial 0 = .ok (.aload 4, 2) := by decide +kernel
theorem d_LW_partial_2 : decode b_LW_partial 2 = .ok (.iconst 0, 1) := by decide +kernel
theorem d_LW_partial_3 : decode b_LW_partial 3 = .ok (.aload_n 0, 1) := by decide +kernel
theorem d_LW_partial_4 : decode b_LW_partial 4 = .ok (.iload_n 1, 1) := by decide +kernel
theorem d_LW_partial_5 : decode b_LW_partial 5 = .ok (.iload_n 2, 1) := by decide +kernel
theorem d_LW_partial_6 : decode b_LW_partial 6 = .ok (.iload_n 3, 1) := by decide +kernel
theorem d_LW_partial_7 : decode b_LW_partial 7 = .ok (.invokevirtual 38, 3) := by decide +kernel
theorem d_LW_partial_10 : decode b_LW_partial 10 = .ok (.lastore, 1) := by decide +kernel
theorem d_LW_partial_11 : decode b_LW_partial 11 = .ok (.goto 11, 3) := by decide +kernel
theorem d_LW_partial_14 : decode b_LW_partial 14 = .ok (.astore 5, 2) := by decide +kernel
theorem d_LW_partial_16 : decode b_LW_partial 16 = .ok (.iconst 1, 1) := by decide +kernel
theorem d_LW_partial_17 : decode b_LW_partial 17 = .ok (.ireturn, 1) := by decide +kernel
theorem d_LW_partial_18 : decode b_LW_partial 18 = .ok (.astore 5, 2) := by decide +kernel
theorem d_LW_partial_20 : decode b_LW_partial 20 = .ok (.iconst 2, 1) := by decide +kernel
theorem d_LW_partial_21 : decode b_LW_partial 21 = .ok (.ireturn, 1) := by decide +kernel
theorem d_LW_partial_22 : decode b_LW_partial 22 = .ok (.iconst 0, 1) := by decide +kernel
theorem d_LW_partial_23 : decode b_LW_partial 23 = .ok (.ireturn, 1) := by decide +kernel
theorem d_LW_bad_0 : decode b_LW_bad 0 = .ok (.aload_n 2, 1) := by decide +kernel
theorem d_LW_bad_1 : decode b_LW_bad 1 = .ok (.iconst 0, 1) := by decide +kernel
theorem d_LW_bad_2 : decode b_LW_bad 2 = .ok (.aload_n 0, 1) := by decide +kernel
theorem d_LW_bad_3 : decode b_LW_bad 3 = .ok (.iload_n 1, 1) := by decide +kernel
theorem d_LW_bad_4 : decode b_LW_bad 4 = .ok (.invokevirtual 42, 3) := by decide +kernel
theorem d_LW_bad_7 : decode b_LW_bad 7 = .ok (.i2l, 1) := by decide +kernel
theorem d_LW_bad_8 : decode b_LW_bad 8 = .ok (.lastore, 1) := by decide +kernel
theorem d_LW_bad_9 : decode b_LW_bad 9 = .ok (.goto 6, 3) := by decide +kernel
theorem d_LW_bad_12 : decode b_LW_bad 12 = .ok (.astore_n 3, 1) := by decide +kernel
theorem d_LW_bad_13 : decode b_LW_bad 13 = .ok (.iconst 1, 1) := by decide +kernel
theorem d_LW_bad_14 : decode b_LW_bad 14 = .ok (.ireturn, 1) := by decide +kernel
theorem d_LW_bad_15 : decode b_LW_bad 15 = .ok (.iconst 0, 1) := by decide +kernel
theorem d_LW_bad_16 : decode b_LW_bad 16 = .ok (.ireturn, 1) := by decide +kernel
theorem d_LW_join_0 : decode b_LW_join 0 = .ok (.aload_n 2, 1) := by decide +kernel
theorem d_LW_join_1 : decode b_LW_join 1 = .ok (.iconst 0, 1) := by decide +kernel
theorem d_LW_join_2 : decode b_LW_join 2 = .ok (.aload_n 0, 1) := by decide +kernel
theorem d_LW_join_3 : decode b_LW_join 3 = .ok (.iload_n 1, 1) := by decide +kernel
theorem d_LW_join_4 : decode b_LW_join 4 = .ok (.invokevirtual 46, 3) := by decide +kernel
theorem d_LW_join_7 : decode b_LW_join 7 = .ok (.lastore, 1) := by decide +kernel
theorem d_LW_join_8 : decode b_LW_join 8 = .ok (.goto 12, 3) := by decide +kernel
theorem d_LW_join_11 : decode b_LW_join 11 = .ok (.astore_n 3, 1) := by decide +kernel
theorem d_LW_join_12 : decode b_LW_join 12 = .ok (.iconst 1, 1) := by decide +kernel
theorem d_LW_join_13 : decode b_LW_join 13 = .ok (.ireturn, 1) := by decide +kernel
theorem d_LW_join_14 : decode b_LW_join 14 = .ok (.astore_n 3, 1) := by decide +kernel
theorem d_LW_join_15 : decode b_LW_join 15 = .ok (.iconst 2, 1) := by decide +kernel
theorem d_LW_join_16 : decode b_LW_join 16 = .ok (.ireturn, 1) := by decide +kernel
theorem d_LW_join_17 : decode b_LW_join 17 = .ok (.astore_n 3, 1) := by decide +kernel
theorem d_LW_join_18 : decode b_LW_join 18 = .ok (.iconst 3, 1) := by decide +kernel
theorem d_LW_join_19 : decode b_LW_join 19 = .ok (.ireturn, 1) := by decide +kernel
theorem d_LW_join_20 : decode b_LW_join 20 = .ok (.iconst 0, 1) := by decide +kernel
theorem d_LW_join_21 : decode b_LW_join 21 = .ok (.ireturn, 1) := by decide +kernel
theorem d_LW_verify_0 : decode b_LW_verify 0 = .ok (.aload_n 3, 1) := by decide +kernel
theorem d_LW_verify_1 : decode b_LW_verify 1 = .ok (.iconst 0, 1) := by decide +kernel
theorem d_LW_verify_2 : decode b_LW_verify 2 = .ok (.aload_n 0, 1) := by decide +kernel
theorem d_LW_verify_3 : decode b_LW_verify 3 = .ok (.lload_n 1, 1) := by decide +kernel
theorem d_LW_verify_4 : decode b_LW_verify 4 = .ok (.invokevirtual 52, 3) := by decide +kernel
theorem d_LW_verify_7 : decode b_LW_verify 7 = .ok (.ifCond .eq 7, 3) := by decide +kernel
theorem d_LW_verify_10 : decode b_LW_verify 10 = .ok (.lconst 1, 1) := by decide +kernel
theorem d_LW_verify_11 : decode b_LW_verify 11 = .ok (.goto 4, 3) := by decide +kernel
theorem d_LW_verify_14 : decode b_LW_verify 14 = .ok (.lconst 0, 1) := by decide +kernel
theorem d_LW_verify_15 : decode b_LW_verify 15 = .ok (.lastore, 1) := by decide +kernel
theorem d_LW_verify_16 : decode b_LW_verify 16 = .ok (.goto 7, 3) := by decide +kernel
theorem d_LW_verify_19 : decode b_LW_verify 19 = .ok (.astore 4, 2) := by decide +kernel
theorem d_LW_verify_21 : decode b_LW_verify 21 = .ok (.iconst 1, 1) := by decide +kernel
theorem d_LW_verify_22 : decode b_LW_verify 22 = .ok (.ireturn, 1) := by decide +kernel
theorem d_LW_verify_23 : decode b_LW_verify 23 = .ok (.iconst 0, 1) := by decide +kernel
theorem d_LW_verify_24 : decode b_LW_verify 24 = .ok (.ireturn, 1) := by decide +kernel
theorem d_LW_refresh_0 : decode b_LW_refresh 0 = .ok (.aload_n 0, 1) := by decide +kernel
theorem d_LW_refresh_1 : decode b_LW_refresh 1 = .ok (.iload_n 1, 1) := by decide +kernel
theorem d_LW_refresh_2 : decode b_LW_refresh 2 = .ok (.iload_n 2, 1) := by decide +kernel
theorem d_LW_refresh_3 : decode b_LW_refresh 3 = .ok (.invokevirtual 56, 3) := by decide +kernel
theorem d_LW_refresh_6 : decode b_LW_refresh 6 = .ok (.goto 9, 3) := by decide +kernel
theorem d_LW_refresh_9 : decode b_LW_refresh 9 = .ok (.astore_n 3, 1) := by decide +kernel
theorem d_LW_refresh_10 : decode b_LW_refresh 10 = .ok (.iconst 1, 1) := by decide +kernel
theorem d_LW_refresh_11 : decode b_LW_refresh 11 = .ok (.ireturn, 1) := by decide +kernel
theorem d_LW_refresh_12 : decode b_LW_refresh 12 = .ok (.astore_n 3, 1) := by decide +kernel
theorem d_LW_refresh_13 : decode b_LW_refresh 13 = .ok (.iconst 2, 1) := by decide +kernel
theorem d_LW_refresh_14 : decode b_LW_refresh 14 = .ok (.ireturn, 1) := by decide +kernel
theorem d_LW_refresh_15 : decode b_LW_refresh 15 = .ok (.iconst 0, 1) := by decide +kernel
theorem d_LW_refresh_16 : decode b_LW_refresh 16 = .ok (.ireturn, 1) := by decide +kernel
theorem d_LW_suspend_0 : decode b_LW_suspend 0 = .ok (.aload_n 3, 1) := by decide +kernel
theorem d_LW_suspend_1 : decode b_LW_suspend 1 = .ok (.iconst 0, 1) := by decide +kernel
theorem d_LW_suspend_2 : decode b_LW_suspend 2 = .ok (.aload_n 0, 1) := by decide +kernel
theorem d_LW_suspend_3 : decode b_LW_suspend 3 = .ok (.iload_n 1, 1) := by decide +kernel
theorem d_LW_suspend_4 : decode b_LW_suspend 4 = .ok (.iload_n 2, 1) := by decide +kernel
theorem d_LW_suspend_5 : decode b_LW_suspend 5 = .ok (.invokevirtual 59, 3) := by decide +kernel
theorem d_LW_suspend_8 : decode b_LW_suspend 8 = .ok (.ifCond .eq 7, 3) := by decide +kernel
theorem d_LW_suspend_11 : decode b_LW_suspend 11 = .ok (.lconst 1, 1) := by decide +kernel
theorem d_LW_suspend_12 : decode b_LW_suspend 12 = .ok (.goto 4, 3) := by decide +kernel
theorem d_LW_suspend_15 : decode b_LW_suspend 15 = .ok (.lconst 0, 1) := by decide +kernel
theorem d_LW_suspend_16 : decode b_LW_suspend 16 = .ok (.lastore, 1) := by decide +kernel
theorem d_LW_suspend_17 : decode b_LW_suspend 17 = .ok (.goto 11, 3) := by decide +kernel
theorem d_LW_suspend_20 : decode b_LW_suspend 20 = .ok (.astore 4, 2) := by decide +kernel
theorem d_LW_suspend_22 : decode b_LW_suspend 22 = .ok (.iconst 1, 1) := by decide +kernel
theorem d_LW_suspend_23 : decode b_LW_suspend 23 = .ok (.ireturn, 1) := by decide +kernel
theorem d_LW_suspend_24 : decode b_LW_suspend 24 = .ok (.astore 4, 2) := by decide +kernel
theorem d_LW_suspend_26 : decode b_LW_suspend 26 = .ok (.iconst 2, 1) := by decide +kernel
theorem d_LW_suspend_27 : decode b_LW_suspend 27 = .ok (.ireturn, 1) := by decide +kernel
theorem d_LW_suspend_28 : decode b_LW_suspend 28 = .ok (.iconst 0, 1) := by decide +kernel
theorem d_LW_suspend_29 : decode b_LW_suspend 29 = .ok (.ireturn, 1) := by decide +kernel
theorem d_LW_parts_0 : decode b_LW_parts 0 = .ok (.aload_n 2, 1) := by decide +kernel
theorem d_LW_parts_1 : decode b_LW_parts 1 = .ok (.iconst 0, 1) := by decide +kernel
theorem d_LW_parts_2 : decode b_LW_parts 2 = .ok (.aload_n 0, 1) := by decide +kernel
theorem d_LW_parts_3 : decode b_LW_parts 3 = .ok (.iload_n 1, 1) := by decide +kernel
theorem d_LW_parts_4 : decode b_LW_parts 4 = .ok (.invokevirtual 63, 3) := by decide +kernel
theorem d_LW_parts_7 : decode b_LW_parts 7 = .ok (.ifCond .eq 7, 3) := by decide +kernel
theorem d_LW_parts_10 : decode b_LW_parts 10 = .ok (.lconst 1, 1) := by decide +kernel
theorem d_LW_parts_11 : decode b_LW_parts 11 = .ok (.goto 4, 3) := by decide +kernel
theorem d_LW_parts_14 : decode b_LW_parts 14 = .ok (.lconst 0, 1) := by decide +kernel
theorem d_LW_parts_15 : decode b_LW_parts 15 = .ok (.lastore, 1) := by decide +kernel
theorem d_LW_parts_16 : decode b_LW_parts 16 = .ok (.goto 9, 3) := by decide +kernel
theorem d_LW_parts_19 : decode b_LW_parts 19 = .ok (.astore_n 3, 1) := by decide +kernel
theorem d_LW_parts_20 : decode b_LW_parts 20 = .ok (.iconst 1, 1) := by decide +kernel
theorem d_LW_parts_21 : decode b_LW_parts 21 = .ok (.ireturn, 1) := by decide +kernel
theorem d_LW_parts_22 : decode b_LW_parts 22 = .ok (.astore_n 3, 1) := by decide +kernel
theorem d_LW_parts_23 : decode b_LW_parts 23 = .ok (.iconst 2, 1) := by decide +kernel
theorem d_LW_parts_24 : decode b_LW_parts 24 = .ok (.ireturn, 1) := by decide +kernel
theorem d_LW_parts_25 : decode b_LW_parts 25 = .ok (.iconst 0, 1) := by decide +kernel
theorem d_LW_parts_26 : decode b_LW_parts 26 = .ok (.ireturn, 1) := by decide +kernel
theorem d_LW_told_0 : decode b_LW_told 0 = .ok (.aload_n 3, 1) := by decide +kernel
theorem d_LW_told_1 : decode b_LW_told 1 = .ok (.iconst 0, 1) := by decide +kernel
theorem d_LW_told_2 : decode b_LW_told 2 = .ok (.aload_n 0, 1) := by decide +kernel
theorem d_LW_told_3 : decode b_LW_told 3 = .ok (.iload_n 1, 1) := by decide +kernel
theorem d_LW_told_4 : decode b_LW_told 4 = .ok (.iload_n 2, 1) := by decide +kernel
theorem d_LW_told_5 : decode b_LW_told 5 = .ok (.invokevirtual 67, 3) := by decide +kernel
theorem d_LW_told_8 : decode b_LW_told 8 = .ok (.lastore, 1) := by decide +kernel
theorem d_LW_told_9 : decode b_LW_told 9 = .ok (.goto 11, 3) := by decide +kernel
theorem d_LW_told_12 : decode b_LW_told 12 = .ok (.astore 4, 2) := by decide +kernel
theorem d_LW_told_14 : decode b_LW_told 14 = .ok (.iconst 1, 1) := by decide +kernel
theorem d_LW_told_15 : decode b_LW_told 15 = .ok (.ireturn, 1) := by decide +kernel
theorem d_LW_told_16 : decode b_LW_told 16 = .ok (.astore 4, 2) := by decide +kernel
theorem d_LW_told_18 : decode b_LW_told 18 = .ok (.iconst 2, 1) := by decide +kernel
theorem d_LW_told_19 : decode b_LW_told 19 = .ok (.ireturn, 1) := by decide +kernel
theorem d_LW_told_20 : decode b_LW_told 20 = .ok (.iconst 0, 1) := by decide +kernel
theorem d_LW_told_21 : decode b_LW_told 21 = .ok (.ireturn, 1) := by decide +kernel
theorem d_LW_book_0 : decode b_LW_book 0 = .ok (.aload_n 2, 1) := by decide +kernel
theorem d_LW_book_1 : decode b_LW_book 1 = .ok (.iconst 0, 1) := by decide +kernel
theorem d_LW_book_2 : decode b_LW_book 2 = .ok (.aload_n 0, 1) := by decide +kernel
theorem d_LW_book_3 : decode b_LW_book 3 = .ok (.iload_n 1, 1) := by decide +kernel
theorem d_LW_book_4 : decode b_LW_book 4 = .ok (.invokevirtual 71, 3) := by decide +kernel
theorem d_LW_book_7 : decode b_LW_book 7 = .ok (.i2l, 1) := by decide +kernel
theorem d_LW_book_8 : decode b_LW_book 8 = .ok (.lastore, 1) := by decide +kernel
theorem d_LW_book_9 : decode b_LW_book 9 = .ok (.goto 6, 3) := by decide +kernel
theorem d_LW_book_12 : decode b_LW_book 12 = .ok (.astore_n 3, 1) := by decide +kernel
theorem d_LW_book_13 : decode b_LW_book 13 = .ok (.iconst 1, 1) := by decide +kernel
theorem d_LW_book_14 : decode b_LW_book 14 = .ok (.ireturn, 1) := by decide +kernel
theorem d_LW_book_15 : decode b_LW_book 15 = .ok (.iconst 0, 1) := by decide +kernel
theorem d_LW_book_16 : decode b_LW_book 16 = .ok (.ireturn, 1) := by decide +kernel
theorem d_LW_state_0 : decode b_LW_state 0 = .ok (.aload_n 2, 1) := by decide +kernel
theorem d_LW_state_1 : decode b_LW_state 1 = .ok (.iconst 0, 1) := by decide +kernel
theorem d_LW_state_2 : decode b_LW_state 2 = .ok (.aload_n 0, 1) := by decide +kernel
theorem d_LW_state_3 : decode b_LW_state 3 = .ok (.iload_n 1, 1) := by decide +kernel
theorem d_LW_state_4 : decode b_LW_state 4 = .ok (.invokevirtual 74, 3) := by decide +kernel
theorem d_LW_state_7 : decode b_LW_state 7 = .ok (.lastore, 1) := by decide +kernel
theorem d_LW_state_8 : decode b_LW_state 8 = .ok (.goto 6, 3) := by decide +kernel
theorem d_LW_state_11 : decode b_LW_state 11 = .ok (.astore_n 3, 1) := by decide +kernel
theorem d_LW_state_12 : decode b_LW_state 12 = .ok (.iconst 1, 1) := by decide +kernel
theorem d_LW_state_13 : decode b_LW_state 13 = .ok (.ireturn, 1) := by decide +kernel
theorem d_LW_state_14 : decode b_LW_state 14 = .ok (.iconst 0, 1) := by decide +kernel
theorem d_LW_state_15 : decode b_LW_state 15 = .ok (.ireturn, 1) := by decide +kernel
theorem d_LW_law_0 : decode b_LW_law 0 = .ok (.new 8, 3) := by decide +kernel
theorem d_LW_law_3 : decode b_LW_law 3 = .ok (.dup, 1) := by decide +kernel
theorem d_LW_law_4 : decode b_LW_law 4 = .ok (.invokespecial 77, 3) := by decide +kernel
theorem d_LW_law_7 : decode b_LW_law 7 = .ok (.astore_n 1, 1) := by decide +kernel
theorem d_LW_law_8 : decode b_LW_law 8 = .ok (.new 78, 3) := by decide +kernel
theorem d_LW_law_11 : decode b_LW_law 11 = .ok (.dup, 1) := by decide +kernel
theorem d_LW_law_12 : decode b_LW_law 12 = .ok (.invokespecial 80, 3) := by decide +kernel
theorem d_LW_law_15 : decode b_LW_law 15 = .ok (.astore_n 2, 1) := by decide +kernel
theorem d_LW_law_16 : decode b_LW_law 16 = .ok (.iconst 1, 1) := by decide +kernel
theorem d_LW_law_17 : decode b_LW_law 17 = .ok (.newarray .long, 2) := by decide +kernel
theorem d_LW_law_19 : decode b_LW_law 19 = .ok (.astore_n 3, 1) := by decide +kernel
theorem d_LW_law_20 : decode b_LW_law 20 = .ok (.iconst 0, 1) := by decide +kernel
theorem d_LW_law_21 : decode b_LW_law 21 = .ok (.istore 4, 2) := by decide +kernel
theorem d_LW_law_23 : decode b_LW_law 23 = .ok (.iload 4, 2) := by decide +kernel
theorem d_LW_law_25 : decode b_LW_law 25 = .ok (.aload_n 0, 1) := by decide +kernel
theorem d_LW_law_26 : decode b_LW_law 26 = .ok (.arraylength, 1) := by decide +kernel
theorem d_LW_law_27 : decode b_LW_law 27 = .ok (.bipush 8, 2) := by decide +kernel
theorem d_LW_law_29 : decode b_LW_law 29 = .ok (.isub, 1) := by decide +kernel
theorem d_LW_law_30 : decode b_LW_law 30 = .ok (.if_icmp .gt 1205, 3) := by decide +kernel
theorem d_LW_law_33 : decode b_LW_law 33 = .ok (.aload_n 0, 1) := by decide +kernel
theorem d_LW_law_34 : decode b_LW_law 34 = .ok (.iload 4, 2) := by decide +kernel
theorem d_LW_law_36 : decode b_LW_law 36 = .ok (.iaload, 1) := by decide +kernel
theorem d_LW_law_37 : decode b_LW_law 37 = .ok (.bipush 15, 2) := by decide +kernel
theorem d_LW_law_39 : decode b_LW_law 39 = .ok (.iand, 1) := by decide +kernel
theorem d_LW_law_40 : decode b_LW_law 40 = .ok (.tableswitch 1189 0 15 #[80, 164, 232, 276, 324, 372, 524, 603, 659, 714, 809, 857, 948, 1011, 1078, 1134], 80) := by decide +kernel
theorem d_LW_law_120 : decode b_LW_law 120 = .ok (.aload_n 1, 1) := by decide +kernel
theorem d_LW_law_121 : decode b_LW_law 121 = .ok (.aload_n 0, 1) := by decide +kernel
theorem d_LW_law_122 : decode b_LW_law 122 = .ok (.iload 4, 2) := by decide +kernel
theorem d_LW_law_124 : decode b_LW_law 124 = .ok (.iconst 1, 1) := by decide +kernel
theorem d_LW_law_125 : decode b_LW_law 125 = .ok (.iadd, 1) := by decide +kernel
theorem d_LW_law_126 : decode b_LW_law 126 = .ok (.iaload, 1) := by decide +kernel
theorem d_LW_law_127 : decode b_LW_law 127 = .ok (.aload_n 0, 1) := by decide +kernel
theorem d_LW_law_128 : decode b_LW_law 128 = .ok (.iload 4, 2) := by decide +kernel
theorem d_LW_law_130 : decode b_LW_law 130 = .ok (.iconst 2, 1) := by decide +kernel
theorem d_LW_law_131 : decode b_LW_law 131 = .ok (.iadd, 1) := by decide +kernel
theorem d_LW_law_132 : decode b_LW_law 132 = .ok (.iaload, 1) := by decide +kernel
theorem d_LW_law_133 : decode b_LW_law 133 = .ok (.aload_n 0, 1) := by decide +kernel
theorem d_LW_law_134 : decode b_LW_law 134 = .ok (.iload 4, 2) := by decide +kernel
theorem d_LW_law_136 : decode b_LW_law 136 = .ok (.iconst 3, 1) := by decide +kernel
theorem d_LW_law_137 : decode b_LW_law 137 = .ok (.iadd, 1) := by decide +kernel
theorem d_LW_law_138 : decode b_LW_law 138 = .ok (.iaload, 1) := by decide +kernel
theorem d_LW_law_139 : decode b_LW_law 139 = .ok (.aload_n 0, 1) := by decide +kernel
theorem d_LW_law_140 : decode b_LW_law 140 = .ok (.iload 4, 2) := by decide +kernel
theorem d_LW_law_142 : decode b_LW_law 142 = .ok (.iconst 4, 1) := by decide +kernel
theorem d_LW_law_143 : decode b_LW_law 143 = .ok (.iadd, 1) := by decide +kernel
theorem d_LW_law_144 : decode b_LW_law 144 = .ok (.iaload, 1) := by decide +kernel
theorem d_LW_law_145 : decode b_LW_law 145 = .ok (.aload_n 0, 1) := by decide +kernel
theorem d_LW_law_146 : decode b_LW_law 146 = .ok (.iload 4, 2) := by decide +kernel
theorem d_LW_law_148 : decode b_LW_law 148 = .ok (.iconst 5, 1) := by decide +kernel
theorem d_LW_law_149 : decode b_LW_law 149 = .ok (.iadd, 1) := by decide +kernel
theorem d_LW_law_150 : decode b_LW_law 150 = .ok (.iaload, 1) := by decide +kernel
theorem d_LW_law_151 : decode b_LW_law 151 = .ok (.invokestatic 81, 3) := by decide +kernel
theorem d_LW_law_154 : decode b_LW_law 154 = .ok (.istore 5, 2) := by decide +kernel
theorem d_LW_law_156 : decode b_LW_law 156 = .ok (.aload_n 2, 1) := by decide +kernel
theorem d_LW_law_157 : decode b_LW_law 157 = .ok (.aload_n 0, 1) := by decide +kernel
theorem d_LW_law_158 : decode b_LW_law 158 = .ok (.iload 4, 2) := by decide +kernel
theorem d_LW_law_160 : decode b_LW_law 160 = .ok (.iconst 1, 1) := by decide +kernel
theorem d_LW_law_161 : decode b_LW_law 161 = .ok (.iadd, 1) := by decide +kernel
theorem d_LW_law_162 : decode b_LW_law 162 = .ok (.iaload, 1) := by decide +kernel
theorem d_LW_law_163 : decode b_LW_law 163 = .ok (.aload_n 0, 1) := by decide +kernel
theorem d_LW_law_164 : decode b_LW_law 164 = .ok (.iload 4, 2) := by decide +kernel
theorem d_LW_law_166 : decode b_LW_law 166 = .ok (.iconst 2, 1) := by decide +kernel
theorem d_LW_law_167 : decode b_LW_law 167 = .ok (.iadd, 1) := by decide +kernel
theorem d_LW_law_168 : decode b_LW_law 168 = .ok (.iaload, 1) := by decide +kernel
theorem d_LW_law_169 : decode b_LW_law 169 = .ok (.aload_n 0, 1) := by decide +kernel
theorem d_LW_law_170 : decode b_LW_law 170 = .ok (.iload 4, 2) := by decide +kernel
theorem d_LW_law_172 : decode b_LW_law 172 = .ok (.iconst 3, 1) := by decide +kernel
theorem d_LW_law_173 : decode b_LW_law 173 = .ok (.iadd, 1) := by decide +kernel
theorem d_LW_law_174 : decode b_LW_law 174 = .ok (.iaload, 1) := by decide +kernel
theorem d_LW_law_175 : decode b_LW_law 175 = .ok (.aload_n 0, 1) := by decide +kernel
theorem d_LW_law_176 : decode b_LW_law 176 = .ok (.iload 4, 2) := by decide +kernel
theorem d_LW_law_178 : decode b_LW_law 178 = .ok (.iconst 4, 1) := by decide +kernel
theorem d_LW_law_179 : decode b_LW_law 179 = .ok (.iadd, 1) := by decide +kernel
theorem d_LW_law_180 : decode b_LW_law 180 = .ok (.iaload, 1) := by decide +kernel
theorem d_LW_law_181 : decode b_LW_law 181 = .ok (.aload_n 0, 1) := by decide +kernel
theorem d_LW_law_182 : decode b_LW_law 182 = .ok (.iload 4, 2) := by decide +kernel
theorem d_LW_law_184 : decode b_LW_law 184 = .ok (.iconst 5, 1) := by decide +kernel
theorem d_LW_law_185 : decode b_LW_law 185 = .ok (.iadd, 1) := by decide +kernel
theorem d_LW_law_186 : decode b_LW_law 186 = .ok (.iaload, 1) := by decide +kernel
theorem d_LW_law_187 : decode b_LW_law 187 = .ok (.invokevirtual 86, 3) := by decide +kernel
theorem d_LW_law_190 : decode b_LW_law 190 = .ok (.aload_n 2, 1) := by decide +kernel
theorem d_LW_law_191 : decode b_LW_law 191 = .ok (.invokevirtual 87, 3) := by decide +kernel
theorem d_LW_law_194 : decode b_LW_law 194 = .ok (.iload 5, 2) := by decide +kernel
theorem d_LW_law_196 : decode b_LW_law 196 = .ok (.if_icmp .eq 5, 3) := by decide +kernel
theorem d_LW_law_199 : decode b_LW_law 199 = .ok (.iconst 0, 1) := by decide +kernel
theorem d_LW_law_200 : decode b_LW_law 200 = .ok (.ireturn, 1) := by decide +kernel
theorem d_LW_law_201 : decode b_LW_law 201 = .ok (.goto 1028, 3) := by decide +kernel
theorem d_LW_law_204 : decode b_LW_law 204 = .ok (.aload_n 1, 1) := by decide +kernel
theorem d_LW_law_205 : decode b_LW_law 205 = .ok (.aload_n 0, 1) := by decide +kernel
theorem d_LW_law_206 : decode b_LW_law 206 = .ok (.iload 4, 2) := by decide +kernel
theorem d_LW_law_208 : decode b_LW_law 208 = .ok (.iconst 1, 1) := by decide +kernel
theorem d_LW_law_209 : decode b_LW_law 209 = .ok (.iadd, 1) := by decide +kernel
theorem d_LW_law_210 : decode b_LW_law 210 = .ok (.iaload, 1) := by decide +kernel
theorem d_LW_law_211 : decode b_LW_law 211 = .ok (.aload_n 0, 1) := by decide +kernel
theorem d_LW_law_212 : decode b_LW_law 212 = .ok (.iload 4, 2) := by decide +kernel
theorem d_LW_law_214 : decode b_LW_law 214 = .ok (.iconst 2, 1) := by decide +kernel
theorem d_LW_law_215 : decode b_LW_law 215 = .ok (.iadd, 1) := by decide +kernel
theorem d_LW_law_216 : decode b_LW_law 216 = .ok (.iaload, 1) := by decide +kernel
theorem d_LW_law_217 : decode b_LW_law 217 = .ok (.aload_n 3, 1) := by decide +kernel
theorem d_LW_law_218 : decode b_LW_law 218 = .ok (.invokestatic 90, 3) := by decide +kernel
theorem d_LW_law_221 : decode b_LW_law 221 = .ok (.istore 5, 2) := by decide +kernel
theorem d_LW_law_223 : decode b_LW_law 223 = .ok (.aload_n 2, 1) := by decide +kernel
theorem d_LW_law_224 : decode b_LW_law 224 = .ok (.aload_n 0, 1) := by decide +kernel
theorem d_LW_law_225 : decode b_LW_law 225 = .ok (.iload 4, 2) := by decide +kernel
theorem d_LW_law_227 : decode b_LW_law 227 = .ok (.iconst 1, 1) := by decide +kernel
theorem d_LW_law_228 : decode b_LW_law 228 = .ok (.iadd, 1) := by decide +kernel
theorem d_LW_law_229 : decode b_LW_law 229 = .ok (.iaload, 1) := by decide +kernel
theorem d_LW_law_230 : decode b_LW_law 230 = .ok (.aload_n 0, 1) := by decide +kernel
theorem d_LW_law_231 : decode b_LW_law 231 = .ok (.iload 4, 2) := by decide +kernel
theorem d_LW_law_233 : decode b_LW_law 233 = .ok (.iconst 2, 1) := by decide +kernel
theorem d_LW_law_234 : decode b_LW_law 234 = .ok (.iadd, 1) := by decide +kernel
theorem d_LW_law_235 : decode b_LW_law 235 = .ok (.iaload, 1) := by decide +kernel
theorem d_LW_law_236 : decode b_LW_law 236 = .ok (.invokevirtual 93, 3) := by decide +kernel
theorem d_LW_law_239 : decode b_LW_law 239 = .ok (.istore 6, 2) := by decide +kernel
theorem d_LW_law_241 : decode b_LW_law 241 = .ok (.aload_n 2, 1) := by decide +kernel
theorem d_LW_law_242 : decode b_LW_law 242 = .ok (.invokevirtual 87, 3) := by decide +kernel
theorem d_LW_law_245 : decode b_LW_law 245 = .ok (.iload 5, 2) := by decide +kernel
theorem d_LW_law_247 : decode b_LW_law 247 = .ok (.if_icmp .eq 5, 3) := by decide +kernel
theorem d_LW_law_250 : decode b_LW_law 250 = .ok (.iconst 0, 1) := by decide +kernel
theorem d_LW_law_251 : decode b_LW_law 251 = .ok (.ireturn, 1) := by decide +kernel
theorem d_LW_law_252 : decode b_LW_law 252 = .ok (.iload 5, 2) := by decide +kernel
theorem d_LW_law_254 : decode b_LW_law 254 = .ok (.ifCond .ne 15, 3) := by decide +kernel
theorem d_LW_law_257 : decode b_LW_law 257 = .ok (.aload_n 3, 1) := by decide +kernel
theorem d_LW_law_258 : decode b_LW_law 258 = .ok (.iconst 0, 1) := by decide +kernel
theorem d_LW_law_259 : decode b_LW_law 259 = .ok (.laload, 1) := by decide +kernel
theorem d_LW_law_260 : decode b_LW_law 260 = .ok (.iload 6, 2) := by decide +kernel
theorem d_LW_law_262 : decode b_LW_law 262 = .ok (.i2l, 1) := by decide +kernel
theorem d_LW_law_263 : decode b_LW_law 263 = .ok (.lcmp, 1) := by decide +kernel
theorem d_LW_law_264 : decode b_LW_law 264 = .ok (.ifCond .eq 5, 3) := by decide +kernel
theorem d_LW_law_267 : decode b_LW_law 267 = .ok (.iconst 0, 1) := by decide +kernel
theorem d_LW_law_268 : decode b_LW_law 268 = .ok (.ireturn, 1) := by decide +kernel
theorem d_LW_law_269 : decode b_LW_law 269 = .ok (.goto 960, 3) := by decide +kernel
theorem d_LW_law_272 : decode b_LW_law 272 = .ok (.aload_n 1, 1) := by decide +kernel
theorem d_LW_law_273 : decode b_LW_law 273 = .ok (.aload_n 3, 1) := by decide +kernel
theorem d_LW_law_274 : decode b_LW_law 274 = .ok (.invokestatic 94, 3) := by decide +kernel
theorem d_LW_law_277 : decode b_LW_law 277 = .ok (.istore 5, 2) := by decide +kernel
theorem d_LW_law_279 : decode b_LW_law 279 = .ok (.aload_n 2, 1) := by decide +kernel
theorem d_LW_law_280 : decode b_LW_law 280 = .ok (.invokevirtual 97, 3) := by decide +kernel
theorem d_LW_law_283 : decode b_LW_law 283 = .ok (.istore 6, 2) := by decide +kernel
theorem d_LW_law_285 : decode b_LW_law 285 = .ok (.aload_n 2, 1) := by decide +kernel
theorem d_LW_law_286 : decode b_LW_law 286 = .ok (.invokevirtual 87, 3) := by decide +kernel
theorem d_LW_law_289 : decode b_LW_law 289 = .ok (.iload 5, 2) := by decide +kernel
theorem d_LW_law_291 : decode b_LW_law 291 = .ok (.if_icmp .eq 5, 3) := by decide +kernel
theorem d_LW_law_294 : decode b_LW_law 294 = .ok (.iconst 0, 1) := by decide +kernel
theorem d_LW_law_295 : decode b_LW_law 295 = .ok (.ireturn, 1) := by decide +kernel
theorem d_LW_law_296 : decode b_LW_law 296 = .ok (.iload 5, 2) := by decide +kernel
theorem d_LW_law_298 : decode b_LW_law 298 = .ok (.ifCond .ne 15, 3) := by decide +kernel
theorem d_LW_law_301 : decode b_LW_law 301 = .ok (.aload_n 3, 1) := by decide +kernel
theorem d_LW_law_302 : decode b_LW_law 302 = .ok (.iconst 0, 1) := by decide +kernel
theorem d_LW_law_303 : decode b_LW_law 303 = .ok (.laload, 1) := by decide +kernel
theorem d_LW_law_304 : decode b_LW_law 304 = .ok (.iload 6, 2) := by decide +kernel
theorem d_LW_law_306 : decode b_LW_law 306 = .ok (.i2l, 1) := by decide +kernel
theorem d_LW_law_307 : decode b_LW_law 307 = .ok (.lcmp, 1) := by decide +kernel
theorem d_LW_law_308 : decode b_LW_law 308 = .ok (.ifCond .eq 5, 3) := by decide +kernel
theorem d_LW_law_311 : decode b_LW_law 311 = .ok (.iconst 0, 1) := by decide +kernel
theorem d_LW_law_312 : decode b_LW_law 312 = .ok (.ireturn, 1) := by decide +kernel
theorem d_LW_law_313 : decode b_LW_law 313 = .ok (.goto 916, 3) := by decide +kernel
theorem d_LW_law_316 : decode b_LW_law 316 = .ok (.aload_n 1, 1) := by decide +kernel
theorem d_LW_law_317 : decode b_LW_law 317 = .ok (.aload_n 0, 1) := by decide +kernel
theorem d_LW_law_318 : decode b_LW_law 318 = .ok (.iload 4, 2) := by decide +kernel
theorem d_LW_law_320 : decode b_LW_law 320 = .ok (.iconst 1, 1) := by decide +kernel
theorem d_LW_law_321 : decode b_LW_law 321 = .ok (.iadd, 1) := by decide +kernel
theorem d_LW_law_322 : decode b_LW_law 322 = .ok (.iaload, 1) := by decide +kernel
theorem d_LW_law_323 : decode b_LW_law 323 = .ok (.aload_n 0, 1) := by decide +kernel
theorem d_LW_law_324 : decode b_LW_law 324 = .ok (.iload 4, 2) := by decide +kernel
theorem d_LW_law_326 : decode b_LW_law 326 = .ok (.iconst 2, 1) := by decide +kernel
theorem d_LW_law_327 : decode b_LW_law 327 = .ok (.iadd, 1) := by decide +kernel
theorem d_LW_law_328 : decode b_LW_law 328 = .ok (.iaload, 1) := by decide +kernel
theorem d_LW_law_329 : decode b_LW_law 329 = .ok (.invokestatic 98, 3) := by decide +kernel
theorem d_LW_law_332 : decode b_LW_law 332 = .ok (.istore 5, 2) := by decide +kernel
theorem d_LW_law_334 : decode b_LW_law 334 = .ok (.aload_n 2, 1) := by decide +kernel
theorem d_LW_law_335 : decode b_LW_law 335 = .ok (.aload_n 0, 1) := by decide +kernel
theorem d_LW_law_336 : decode b_LW_law 336 = .ok (.iload 4, 2) := by decide +kernel
theorem d_LW_law_338 : decode b_LW_law 338 = .ok (.iconst 1, 1) := by decide +kernel
theorem d_LW_law_339 : decode b_LW_law 339 = .ok (.iadd, 1) := by decide +kernel
theorem d_LW_law_340 : decode b_LW_law 340 = .ok (.iaload, 1) := by decide +kernel
theorem d_LW_law_341 : decode b_LW_law 341 = .ok (.aload_n 0, 1) := by decide +kernel
theorem d_LW_law_342 : decode b_LW_law 342 = .ok (.iload 4, 2) := by decide +kernel
theorem d_LW_law_344 : decode b_LW_law 344 = .ok (.iconst 2, 1) := by decide +kernel
theorem d_LW_law_345 : decode b_LW_law 345 = .ok (.iadd, 1) := by decide +kernel
theorem d_LW_law_346 : decode b_LW_law 346 = .ok (.iaload, 1) := by decide +kernel
theorem d_LW_law_347 : decode b_LW_law 347 = .ok (.invokevirtual 101, 3) := by decide +kernel
theorem d_LW_law_350 : decode b_LW_law 350 = .ok (.aload_n 2, 1) := by decide +kernel
theorem d_LW_law_351 : decode b_LW_law 351 = .ok (.invokevirtual 87, 3) := by decide +kernel
theorem d_LW_law_354 : decode b_LW_law 354 = .ok (.iload 5, 2) := by decide +kernel
theorem d_LW_law_356 : decode b_LW_law 356 = .ok (.if_icmp .eq 5, 3) := by decide +kernel
theorem d_LW_law_359 : decode b_LW_law 359 = .ok (.iconst 0, 1) := by decide +kernel
theorem d_LW_law_360 : decode b_LW_law 360 = .ok (.ireturn, 1) := by decide +kernel
theorem d_LW_law_361 : decode b_LW_law 361 = .ok (.goto 868, 3) := by decide +kernel
theorem d_LW_law_364 : decode b_LW_law 364 = .ok (.aload_n 1, 1) := by decide +kernel
theorem d_LW_law_365 : decode b_LW_law 365 = .ok (.aload_n 0, 1) := by decide +kernel
theorem d_LW_law_366 : decode b_LW_law 366 = .ok (.iload 4, 2) := by decide +kernel
theorem d_LW_law_368 : decode b_LW_law 368 = .ok (.iconst 1, 1) := by decide +kernel
theorem d_LW_law_369 : decode b_LW_law 369 = .ok (.iadd, 1) := by decide +kernel
theorem d_LW_law_370 : decode b_LW_law 370 = .ok (.iaload, 1) := by decide +kernel
theorem d_LW_law_371 : decode b_LW_law 371 = .ok (.aload_n 0, 1) := by decide +kernel
theorem d_LW_law_372 : decode b_LW_law 372 = .ok (.iload 4, 2) := by decide +kernel
theorem d_LW_law_374 : decode b_LW_law 374 = .ok (.iconst 2, 1) := by decide +kernel
theorem d_LW_law_375 : decode b_LW_law 375 = .ok (.iadd, 1) := by decide +kernel
theorem d_LW_law_376 : decode b_LW_law 376 = .ok (.iaload, 1) := by decide +kernel
theorem d_LW_law_377 : decode b_LW_law 377 = .ok (.invokestatic 102, 3) := by decide +kernel
theorem d_LW_law_380 : decode b_LW_law 380 = .ok (.istore 5, 2) := by decide +kernel
theorem d_LW_law_382 : decode b_LW_law 382 = .ok (.aload_n 2, 1) := by decide +kernel
theorem d_LW_law_383 : decode b_LW_law 383 = .ok (.aload_n 0, 1) := by decide +kernel
theorem d_LW_law_384 : decode b_LW_law 384 = .ok (.iload 4, 2) := by decide +kernel
theorem d_LW_law_386 : decode b_LW_law 386 = .ok (.iconst 1, 1) := by decide +kernel
theorem d_LW_law_387 : decode b_LW_law 387 = .ok (.iadd, 1) := by decide +kernel
theorem d_LW_law_388 : decode b_LW_law 388 = .ok (.iaload, 1) := by decide +kernel
theorem d_LW_law_389 : decode b_LW_law 389 = .ok (.aload_n 0, 1) := by decide +kernel
theorem d_LW_law_390 : decode b_LW_law 390 = .ok (.iload 4, 2) := by decide +kernel
theorem d_LW_law_392 : decode b_LW_law 392 = .ok (.iconst 2, 1) := by decide +kernel
theorem d_LW_law_393 : decode b_LW_law 393 = .ok (.iadd, 1) := by decide +kernel
theorem d_LW_law_394 : decode b_LW_law 394 = .ok (.iaload, 1) := by decide +kernel
theorem d_LW_law_395 : decode b_LW_law 395 = .ok (.invokevirtual 104, 3) := by decide +kernel
theorem d_LW_law_398 : decode b_LW_law 398 = .ok (.aload_n 2, 1) := by decide +kernel
theorem d_LW_law_399 : decode b_LW_law 399 = .ok (.invokevirtual 87, 3) := by decide +kernel
theorem d_LW_law_402 : decode b_LW_law 402 = .ok (.iload 5, 2) := by decide +kernel
theorem d_LW_law_404 : decode b_LW_law 404 = .ok (.if_icmp .eq 5, 3) := by decide +kernel
theorem d_LW_law_407 : decode b_LW_law 407 = .ok (.iconst 0, 1) := by decide +kernel
theorem d_LW_law_408 : decode b_LW_law 408 = .ok (.ireturn, 1) := by decide +kernel
theorem d_LW_law_409 : decode b_LW_law 409 = .ok (.goto 820, 3) := by decide +kernel
theorem d_LW_law_412 : decode b_LW_law 412 = .ok (.aload_n 1, 1) := by decide +kernel
theorem d_LW_law_413 : decode b_LW_law 413 = .ok (.aload_n 0, 1) := by decide +kernel
theorem d_LW_law_414 : decode b_LW_law 414 = .ok (.iload 4, 2) := by decide +kernel
theorem d_LW_law_416 : decode b_LW_law 416 = .ok (.iconst 1, 1) := by decide +kernel
theorem d_LW_law_417 : decode b_LW_law 417 = .ok (.iadd, 1) := by decide +kernel
theorem d_LW_law_418 : decode b_LW_law 418 = .ok (.iaload, 1) := by decide +kernel
theorem d_LW_law_419 : decode b_LW_law 419 = .ok (.aload_n 0, 1) := by decide +kernel
theorem d_LW_law_420 : decode b_LW_law 420 = .ok (.iload 4, 2) := by decide +kernel
theorem d_LW_law_422 : decode b_LW_law 422 = .ok (.iconst 2, 1) := by decide +kernel
theorem d_LW_law_423 : decode b_LW_law 423 = .ok (.iadd, 1) := by decide +kernel
theorem d_LW_law_424 : decode b_LW_law 424 = .ok (.iaload, 1) := by decide +kernel
theorem d_LW_law_425 : decode b_LW_law 425 = .ok (.aload_n 0, 1) := by decide +kernel
theorem d_LW_law_426 : decode b_LW_law 426 = .ok (.iload 4, 2) := by decide +kernel
theorem d_LW_law_428 : decode b_LW_law 428 = .ok (.iconst 3, 1) := by decide +kernel
theorem d_LW_law_429 : decode b_LW_law 429 = .ok (.iadd, 1) := by decide +kernel
theorem d_LW_law_430 : decode b_LW_law 430 = .ok (.iaload, 1) := by decide +kernel
theorem d_LW_law_431 : decode b_LW_law 431 = .ok (.i2l, 1) := by decide +kernel
theorem d_LW_law_432 : decode b_LW_law 432 = .ok (.bipush 32, 2) := by decide +kernel
theorem d_LW_law_434 : decode b_LW_law 434 = .ok (.lshl, 1) := by decide +kernel
theorem d_LW_law_435 : decode b_LW_law 435 = .ok (.aload_n 0, 1) := by decide +kernel
theorem d_LW_law_436 : decode b_LW_law 436 = .ok (.iload 4, 2) := by decide +kernel
theorem d_LW_law_438 : decode b_LW_law 438 = .ok (.iconst 4, 1) := by decide +kernel
theorem d_LW_law_439 : decode b_LW_law 439 = .ok (.iadd, 1) := by decide +kernel
theorem d_LW_law_440 : decode b_LW_law 440 = .ok (.iaload, 1) := by decide +kernel
theorem d_LW_law_441 : decode b_LW_law 441 = .ok (.i2l, 1) := by decide +kernel
theorem d_LW_law_442 : decode b_LW_law 442 = .ok (.ldc2_w 105, 3) := by decide +kernel
theorem d_LW_law_445 : decode b_LW_law 445 = .ok (.land, 1) := by decide +kernel
theorem d_LW_law_446 : decode b_LW_law 446 = .ok (.lor, 1) := by decide +kernel
theorem d_LW_law_447 : decode b_LW_law 447 = .ok (.aload_n 0, 1) := by decide +kernel
theorem d_LW_law_448 : decode b_LW_law 448 = .ok (.iload 4, 2) := by decide +kernel
theorem d_LW_law_450 : decode b_LW_law 450 = .ok (.iconst 5, 1) := by decide +kernel
theorem d_LW_law_451 : decode b_LW_law 451 = .ok (.iadd, 1) := by decide +kernel
theorem d_LW_law_452 : decode b_LW_law 452 = .ok (.iaload, 1) := by decide +kernel
theorem d_LW_law_453 : decode b_LW_law 453 = .ok (.aload_n 0, 1) := by decide +kernel
theorem d_LW_law_454 : decode b_LW_law 454 = .ok (.iload 4, 2) := by decide +kernel
theorem d_LW_law_456 : decode b_LW_law 456 = .ok (.bipush 6, 2) := by decide +kernel
theorem d_LW_law_458 : decode b_LW_law 458 = .ok (.iadd, 1) := by decide +kernel
theorem d_LW_law_459 : decode b_LW_law 459 = .ok (.iaload, 1) := by decide +kernel
theorem d_LW_law_460 : decode b_LW_law 460 = .ok (.i2l, 1) := by decide +kernel
theorem d_LW_law_461 : decode b_LW_law 461 = .ok (.bipush 32, 2) := by decide +kernel
theorem d_LW_law_463 : decode b_LW_law 463 = .ok (.lshl, 1) := by decide +kernel
theorem d_LW_law_464 : decode b_LW_law 464 = .ok (.aload_n 0, 1) := by decide +kernel
theorem d_LW_law_465 : decode b_LW_law 465 = .ok (.iload 4, 2) := by decide +kernel
theorem d_LW_law_467 : decode b_LW_law 467 = .ok (.bipush 7, 2) := by decide +kernel
theorem d_LW_law_469 : decode b_LW_law 469 = .ok (.iadd, 1) := by decide +kernel
theorem d_LW_law_470 : decode b_LW_law 470 = .ok (.iaload, 1) := by decide +kernel
theorem d_LW_law_471 : decode b_LW_law 471 = .ok (.i2l, 1) := by decide +kernel
theorem d_LW_law_472 : decode b_LW_law 472 = .ok (.ldc2_w 105, 3) := by decide +kernel
theorem d_LW_law_475 : decode b_LW_law 475 = .ok (.land, 1) := by decide +kernel
theorem d_LW_law_476 : decode b_LW_law 476 = .ok (.lor, 1) := by decide +kernel
theorem d_LW_law_477 : decode b_LW_law 477 = .ok (.invokestatic 107, 3) := by decide +kernel
theorem d_LW_law_480 : decode b_LW_law 480 = .ok (.istore 5, 2) := by decide +kernel
theorem d_LW_law_482 : decode b_LW_law 482 = .ok (.aload_n 2, 1) := by decide +kernel
theorem d_LW_law_483 : decode b_LW_law 483 = .ok (.aload_n 0, 1) := by decide +kernel
theorem d_LW_law_484 : decode b_LW_law 484 = .ok (.iload 4, 2) := by decide +kernel
theorem d_LW_law_486 : decode b_LW_law 486 = .ok (.iconst 1, 1) := by decide +kernel
theorem d_LW_law_487 : decode b_LW_law 487 = .ok (.iadd, 1) := by decide +kernel
theorem d_LW_law_488 : decode b_LW_law 488 = .ok (.iaload, 1) := by decide +kernel
theorem d_LW_law_489 : decode b_LW_law 489 = .ok (.aload_n 0, 1) := by decide +kernel
theorem d_LW_law_490 : decode b_LW_law 490 = .ok (.iload 4, 2) := by decide +kernel
theorem d_LW_law_492 : decode b_LW_law 492 = .ok (.iconst 2, 1) := by decide +kernel
theorem d_LW_law_493 : decode b_LW_law 493 = .ok (.iadd, 1) := by decide +kernel
theorem d_LW_law_494 : decode b_LW_law 494 = .ok (.iaload, 1) := by decide +kernel
theorem d_LW_law_495 : decode b_LW_law 495 = .ok (.aload_n 0, 1) := by decide +kernel
theorem d_LW_law_496 : decode b_LW_law 496 = .ok (.iload 4, 2) := by decide +kernel
theorem d_LW_law_498 : decode b_LW_law 498 = .ok (.iconst 3, 1) := by decide +kernel
theorem d_LW_law_499 : decode b_LW_law 499 = .ok (.iadd, 1) := by decide +kernel
theorem d_LW_law_500 : decode b_LW_law 500 = .ok (.iaload, 1) := by decide +kernel
theorem d_LW_law_501 : decode b_LW_law 501 = .ok (.i2l, 1) := by decide +kernel
theorem d_LW_law_502 : decode b_LW_law 502 = .ok (.bipush 32, 2) := by decide +kernel
theorem d_LW_law_504 : decode b_LW_law 504 = .ok (.lshl, 1) := by decide +kernel
theorem d_LW_law_505 : decode b_LW_law 505 = .ok (.aload_n 0, 1) := by decide +kernel
theorem d_LW_law_506 : decode b_LW_law 506 = .ok (.iload 4, 2) := by decide +kernel
theorem d_LW_law_508 : decode b_LW_law 508 = .ok (.iconst 4, 1) := by decide +kernel
theorem d_LW_law_509 : decode b_LW_law 509 = .ok (.iadd, 1) := by decide +kernel
theorem d_LW_law_510 : decode b_LW_law 510 = .ok (.iaload, 1) := by decide +kernel
theorem d_LW_law_511 : decode b_LW_law 511 = .ok (.i2l, 1) := by decide +kernel
theorem d_LW_law_512 : decode b_LW_law 512 = .ok (.ldc2_w 105, 3) := by decide +kernel
theorem d_LW_law_515 : decode b_LW_law 515 = .ok (.land, 1) := by decide +kernel
theorem d_LW_law_516 : decode b_LW_law 516 = .ok (.lor, 1) := by decide +kernel
theorem d_LW_law_517 : decode b_LW_law 517 = .ok (.aload_n 0, 1) := by decide +kernel
theorem d_LW_law_518 : decode b_LW_law 518 = .ok (.iload 4, 2) := by decide +kernel
theorem d_LW_law_520 : decode b_LW_law 520 = .ok (.iconst 5, 1) := by decide +kernel
theorem d_LW_law_521 : decode b_LW_law 521 = .ok (.iadd, 1) := by decide +kernel
theorem d_LW_law_522 : decode b_LW_law 522 = .ok (.iaload, 1) := by decide +kernel
theorem d_LW_law_523 : decode b_LW_law 523 = .ok (.aload_n 0, 1) := by decide +kernel
theorem d_LW_law_524 : decode b_LW_law 524 = .ok (.iload 4, 2) := by decide +kernel
theorem d_LW_law_526 : decode b_LW_law 526 = .ok (.bipush 6, 2) := by decide +kernel
theorem d_LW_law_528 : decode b_LW_law 528 = .ok (.iadd, 1) := by decide +kernel
theorem d_LW_law_529 : decode b_LW_law 529 = .ok (.iaload, 1) := by decide +kernel
theorem d_LW_law_530 : decode b_LW_law 530 = .ok (.i2l, 1) := by decide +kernel
theorem d_LW_law_531 : decode b_LW_law 531 = .ok (.bipush 32, 2) := by decide +kernel
theorem d_LW_law_533 : decode b_LW_law 533 = .ok (.lshl, 1) := by decide +kernel
theorem d_LW_law_534 : decode b_LW_law 534 = .ok (.aload_n 0, 1) := by decide +kernel
theorem d_LW_law_535 : decode b_LW_law 535 = .ok (.iload 4, 2) := by decide +kernel
theorem d_LW_law_537 : decode b_LW_law 537 = .ok (.bipush 7, 2) := by decide +kernel
theorem d_LW_law_539 : decode b_LW_law 539 = .ok (.iadd, 1) := by decide +kernel
theorem d_LW_law_540 : decode b_LW_law 540 = .ok (.iaload, 1) := by decide +kernel
theorem d_LW_law_541 : decode b_LW_law 541 = .ok (.i2l, 1) := by decide +kernel
theorem d_LW_law_542 : decode b_LW_law 542 = .ok (.ldc2_w 105, 3) := by decide +kernel
theorem d_LW_law_545 : decode b_LW_law 545 = .ok (.land, 1) := by decide +kernel
theorem d_LW_law_546 : decode b_LW_law 546 = .ok (.lor, 1) := by decide +kernel
theorem d_LW_law_547 : decode b_LW_law 547 = .ok (.invokevirtual 110, 3) := by decide +kernel
theorem d_LW_law_550 : decode b_LW_law 550 = .ok (.aload_n 2, 1) := by decide +kernel
theorem d_LW_law_551 : decode b_LW_law 551 = .ok (.invokevirtual 87, 3) := by decide +kernel
theorem d_LW_law_554 : decode b_LW_law 554 = .ok (.iload 5, 2) := by decide +kernel
theorem d_LW_law_556 : decode b_LW_law 556 = .ok (.if_icmp .eq 5, 3) := by decide +kernel
theorem d_LW_law_559 : decode b_LW_law 559 = .ok (.iconst 0, 1) := by decide +kernel
theorem d_LW_law_560 : decode b_LW_law 560 = .ok (.ireturn, 1) := by decide +kernel
theorem d_LW_law_561 : decode b_LW_law 561 = .ok (.goto 668, 3) := by decide +kernel
theorem d_LW_law_564 : decode b_LW_law 564 = .ok (.aload_n 1, 1) := by decide +kernel
theorem d_LW_law_565 : decode b_LW_law 565 = .ok (.aload_n 0, 1) := by decide +kernel
theorem d_LW_law_566 : decode b_LW_law 566 = .ok (.iload 4, 2) := by decide +kernel
theorem d_LW_law_568 : decode b_LW_law 568 = .ok (.iconst 1, 1) := by decide +kernel
theorem d_LW_law_569 : decode b_LW_law 569 = .ok (.iadd, 1) := by decide +kernel
theorem d_LW_law_570 : decode b_LW_law 570 = .ok (.iaload, 1) := by decide +kernel
theorem d_LW_law_571 : decode b_LW_law 571 = .ok (.aload_n 0, 1) := by decide +kernel
theorem d_LW_law_572 : decode b_LW_law 572 = .ok (.iload 4, 2) := by decide +kernel
theorem d_LW_law_574 : decode b_LW_law 574 = .ok (.iconst 2, 1) := by decide +kernel
theorem d_LW_law_575 : decode b_LW_law 575 = .ok (.iadd, 1) := by decide +kernel
theorem d_LW_law_576 : decode b_LW_law 576 = .ok (.iaload, 1) := by decide +kernel
theorem d_LW_law_577 : decode b_LW_law 577 = .ok (.aload_n 0, 1) := by decide +kernel
theorem d_LW_law_578 : decode b_LW_law 578 = .ok (.iload 4, 2) := by decide +kernel
theorem d_LW_law_580 : decode b_LW_law 580 = .ok (.iconst 3, 1) := by decide +kernel
theorem d_LW_law_581 : decode b_LW_law 581 = .ok (.iadd, 1) := by decide +kernel
theorem d_LW_law_582 : decode b_LW_law 582 = .ok (.iaload, 1) := by decide +kernel
theorem d_LW_law_583 : decode b_LW_law 583 = .ok (.aload_n 3, 1) := by decide +kernel
theorem d_LW_law_584 : decode b_LW_law 584 = .ok (.invokestatic 111, 3) := by decide +kernel
theorem d_LW_law_587 : decode b_LW_law 587 = .ok (.istore 5, 2) := by decide +kernel
theorem d_LW_law_589 : decode b_LW_law 589 = .ok (.aload_n 2, 1) := by decide +kernel
theorem d_LW_law_590 : decode b_LW_law 590 = .ok (.aload_n 0, 1) := by decide +kernel
theorem d_LW_law_591 : decode b_LW_law 591 = .ok (.iload 4, 2) := by decide +kernel
theorem d_LW_law_593 : decode b_LW_law 593 = .ok (.iconst 1, 1) := by decide +kernel
theorem d_LW_law_594 : decode b_LW_law 594 = .ok (.iadd, 1) := by decide +kernel
theorem d_LW_law_595 : decode b_LW_law 595 = .ok (.iaload, 1) := by decide +kernel
theorem d_LW_law_596 : decode b_LW_law 596 = .ok (.aload_n 0, 1) := by decide +kernel
theorem d_LW_law_597 : decode b_LW_law 597 = .ok (.iload 4, 2) := by decide +kernel
theorem d_LW_law_599 : decode b_LW_law 599 = .ok (.iconst 2, 1) := by decide +kernel
theorem d_LW_law_600 : decode b_LW_law 600 = .ok (.iadd, 1) := by decide +kernel
theorem d_LW_law_601 : decode b_LW_law 601 = .ok (.iaload, 1) := by decide +kernel
theorem d_LW_law_602 : decode b_LW_law 602 = .ok (.aload_n 0, 1) := by decide +kernel
theorem d_LW_law_603 : decode b_LW_law 603 = .ok (.iload 4, 2) := by decide +kernel
theorem d_LW_law_605 : decode b_LW_law 605 = .ok (.iconst 3, 1) := by decide +kernel
theorem d_LW_law_606 : decode b_LW_law 606 = .ok (.iadd, 1) := by decide +kernel
theorem d_LW_law_607 : decode b_LW_law 607 = .ok (.iaload, 1) := by decide +kernel
theorem d_LW_law_608 : decode b_LW_law 608 = .ok (.invokevirtual 114, 3) := by decide +kernel
theorem d_LW_law_611 : decode b_LW_law 611 = .ok (.lstore 6, 2) := by decide +kernel
theorem d_LW_law_613 : decode b_LW_law 613 = .ok (.aload_n 2, 1) := by decide +kernel
theorem d_LW_law_614 : decode b_LW_law 614 = .ok (.invokevirtual 87, 3) := by decide +kernel
theorem d_LW_law_617 : decode b_LW_law 617 = .ok (.iload 5, 2) := by decide +kernel
theorem d_LW_law_619 : decode b_LW_law 619 = .ok (.if_icmp .eq 5, 3) := by decide +kernel
theorem d_LW_law_622 : decode b_LW_law 622 = .ok (.iconst 0, 1) := by decide +kernel
theorem d_LW_law_623 : decode b_LW_law 623 = .ok (.ireturn, 1) := by decide +kernel
theorem d_LW_law_624 : decode b_LW_law 624 = .ok (.iload 5, 2) := by decide +kernel
theorem d_LW_law_626 : decode b_LW_law 626 = .ok (.ifCond .ne 14, 3) := by decide +kernel
theorem d_LW_law_629 : decode b_LW_law 629 = .ok (.aload_n 3, 1) := by decide +kernel
theorem d_LW_law_630 : decode b_LW_law 630 = .ok (.iconst 0, 1) := by decide +kernel
theorem d_LW_law_631 : decode b_LW_law 631 = .ok (.laload, 1) := by decide +kernel
theorem d_LW_law_632 : decode b_LW_law 632 = .ok (.lload 6, 2) := by decide +kernel
theorem d_LW_law_634 : decode b_LW_law 634 = .ok (.lcmp, 1) := by decide +kernel
theorem d_LW_law_635 : decode b_LW_law 635 = .ok (.ifCond .eq 5, 3) := by decide +kernel
theorem d_LW_law_638 : decode b_LW_law 638 = .ok (.iconst 0, 1) := by decide +kernel
theorem d_LW_law_639 : decode b_LW_law 639 = .ok (.ireturn, 1) := by decide +kernel
theorem d_LW_law_640 : decode b_LW_law 640 = .ok (.goto 589, 3) := by decide +kernel
theorem d_LW_law_643 : decode b_LW_law 643 = .ok (.aload_n 1, 1) := by decide +kernel
theorem d_LW_law_644 : decode b_LW_law 644 = .ok (.aload_n 0, 1) := by decide +kernel
theorem d_LW_law_645 : decode b_LW_law 645 = .ok (.iload 4, 2) := by decide +kernel
theorem d_LW_law_647 : decode b_LW_law 647 = .ok (.iconst 1, 1) := by decide +kernel
theorem d_LW_law_648 : decode b_LW_law 648 = .ok (.iadd, 1) := by decide +kernel
theorem d_LW_law_649 : decode b_LW_law 649 = .ok (.iaload, 1) := by decide +kernel
theorem d_LW_law_650 : decode b_LW_law 650 = .ok (.aload_n 3, 1) := by decide +kernel
theorem d_LW_law_651 : decode b_LW_law 651 = .ok (.invokestatic 115, 3) := by decide +kernel
theorem d_LW_law_654 : decode b_LW_law 654 = .ok (.istore 5, 2) := by decide +kernel
theorem d_LW_law_656 : decode b_LW_law 656 = .ok (.aload_n 2, 1) := by decide +kernel
theorem d_LW_law_657 : decode b_LW_law 657 = .ok (.aload_n 0, 1) := by decide +kernel
theorem d_LW_law_658 : decode b_LW_law 658 = .ok (.iload 4, 2) := by decide +kernel
theorem d_LW_law_660 : decode b_LW_law 660 = .ok (.iconst 1, 1) := by decide +kernel
theorem d_LW_law_661 : decode b_LW_law 661 = .ok (.iadd, 1) := by decide +kernel
theorem d_LW_law_662 : decode b_LW_law 662 = .ok (.iaload, 1) := by decide +kernel
theorem d_LW_law_663 : decode b_LW_law 663 = .ok (.invokevirtual 118, 3) := by decide +kernel
theorem d_LW_law_666 : decode b_LW_law 666 = .ok (.istore 6, 2) := by decide +kernel
theorem d_LW_law_668 : decode b_LW_law 668 = .ok (.aload_n 2, 1) := by decide +kernel
theorem d_LW_law_669 : decode b_LW_law 669 = .ok (.invokevirtual 87, 3) := by decide +kernel
theorem d_LW_law_672 : decode b_LW_law 672 = .ok (.iload 5, 2) := by decide +kernel
theorem d_LW_law_674 : decode b_LW_law 674 = .ok (.if_icmp .eq 5, 3) := by decide +kernel
theorem d_LW_law_677 : decode b_LW_law 677 = .ok (.iconst 0, 1) := by decide +kernel
theorem d_LW_law_678 : decode b_LW_law 678 = .ok (.ireturn, 1) := by decide +kernel
theorem d_LW_law_679 : decode b_LW_law 679 = .ok (.iload 5, 2) := by decide +kernel
theorem d_LW_law_681 : decode b_LW_law 681 = .ok (.ifCond .ne 15, 3) := by decide +kernel
theorem d_LW_law_684 : decode b_LW_law 684 = .ok (.aload_n 3, 1) := by decide +kernel
theorem d_LW_law_685 : decode b_LW_law 685 = .ok (.iconst 0, 1) := by decide +kernel
theorem d_LW_law_686 : decode b_LW_law 686 = .ok (.laload, 1) := by decide +kernel
theorem d_LW_law_687 : decode b_LW_law 687 = .ok (.iload 6, 2) := by decide +kernel
theorem d_LW_law_689 : decode b_LW_law 689 = .ok (.i2l, 1) := by decide +kernel
theorem d_LW_law_690 : decode b_LW_law 690 = .ok (.lcmp, 1) := by decide +kernel
theorem d_LW_law_691 : decode b_LW_law 691 = .ok (.ifCond .eq 5, 3) := by decide +kernel
theorem d_LW_law_694 : decode b_LW_law 694 = .ok (.iconst 0, 1) := by decide +kernel
theorem d_LW_law_695 : decode b_LW_law 695 = .ok (.ireturn, 1) := by decide +kernel
theorem d_LW_law_696 : decode b_LW_law 696 = .ok (.goto 533, 3) := by decide +kernel
theorem d_LW_law_699 : decode b_LW_law 699 = .ok (.aload_n 1, 1) := by decide +kernel
theorem d_LW_law_700 : decode b_LW_law 700 = .ok (.aload_n 0, 1) := by decide +kernel
theorem d_LW_law_701 : decode b_LW_law 701 = .ok (.iload 4, 2) := by decide +kernel
theorem d_LW_law_703 : decode b_LW_law 703 = .ok (.iconst 1, 1) := by decide +kernel
theorem d_LW_law_704 : decode b_LW_law 704 = .ok (.iadd, 1) := by decide +kernel
theorem d_LW_law_705 : decode b_LW_law 705 = .ok (.iaload, 1) := by decide +kernel
theorem d_LW_law_706 : decode b_LW_law 706 = .ok (.aload_n 3, 1) := by decide +kernel
theorem d_LW_law_707 : decode b_LW_law 707 = .ok (.invokestatic 119, 3) := by decide +kernel
theorem d_LW_law_710 : decode b_LW_law 710 = .ok (.istore 5, 2) := by decide +kernel
theorem d_LW_law_712 : decode b_LW_law 712 = .ok (.aload_n 2, 1) := by decide +kernel
theorem d_LW_law_713 : decode b_LW_law 713 = .ok (.aload_n 0, 1) := by decide +kernel
theorem d_LW_law_714 : decode b_LW_law 714 = .ok (.iload 4, 2) := by decide +kernel
theorem d_LW_law_716 : decode b_LW_law 716 = .ok (.iconst 1, 1) := by decide +kernel
theorem d_LW_law_717 : decode b_LW_law 717 = .ok (.iadd, 1) := by decide +kernel
theorem d_LW_law_718 : decode b_LW_law 718 = .ok (.iaload, 1) := by decide +kernel
theorem d_LW_law_719 : decode b_LW_law 719 = .ok (.invokevirtual 121, 3) := by decide +kernel
theorem d_LW_law_722 : decode b_LW_law 722 = .ok (.lstore 6, 2) := by decide +kernel
theorem d_LW_law_724 : decode b_LW_law 724 = .ok (.aload_n 2, 1) := by decide +kernel
theorem d_LW_law_725 : decode b_LW_law 725 = .ok (.invokevirtual 87, 3) := by decide +kernel
theorem d_LW_law_728 : decode b_LW_law 728 = .ok (.iload 5, 2) := by decide +kernel
theorem d_LW_law_730 : decode b_LW_law 730 = .ok (.if_icmp .eq 5, 3) := by decide +kernel
theorem d_LW_law_733 : decode b_LW_law 733 = .ok (.iconst 0, 1) := by decide +kernel
theorem d_LW_law_734 : decode b_LW_law 734 = .ok (.ireturn, 1) := by decide +kernel
theorem d_LW_law_735 : decode b_LW_law 735 = .ok (.iload 5, 2) := by decide +kernel
theorem d_LW_law_737 : decode b_LW_law 737 = .ok (.ifCond .ne 14, 3) := by decide +kernel
theorem d_LW_law_740 : decode b_LW_law 740 = .ok (.aload_n 3, 1) := by decide +kernel
theorem d_LW_law_741 : decode b_LW_law 741 = .ok (.iconst 0, 1) := by decide +kernel
theorem d_LW_law_742 : decode b_LW_law 742 = .ok (.laload, 1) := by decide +kernel
theorem d_LW_law_743 : decode b_LW_law 743 = .ok (.lload 6, 2) := by decide +kernel
theorem d_LW_law_745 : decode b_LW_law 745 = .ok (.lcmp, 1) := by decide +kernel
theorem d_LW_law_746 : decode b_LW_law 746 = .ok (.ifCond .eq 5, 3) := by decide +kernel
theorem d_LW_law_749 : decode b_LW_law 749 = .ok (.iconst 0, 1) := by decide +kernel
theorem d_LW_law_750 : decode b_LW_law 750 = .ok (.ireturn, 1) := by decide +kernel
theorem d_LW_law_751 : decode b_LW_law 751 = .ok (.goto 478, 3) := by decide +kernel
theorem d_LW_law_754 : decode b_LW_law 754 = .ok (.aload_n 1, 1) := by decide +kernel
theorem d_LW_law_755 : decode b_LW_law 755 = .ok (.aload_n 0, 1) := by decide +kernel
theorem d_LW_law_756 : decode b_LW_law 756 = .ok (.iload 4, 2) := by decide +kernel
theorem d_LW_law_758 : decode b_LW_law 758 = .ok (.iconst 1, 1) := by decide +kernel
theorem d_LW_law_759 : decode b_LW_law 759 = .ok (.iadd, 1) := by decide +kernel
theorem d_LW_law_760 : decode b_LW_law 760 = .ok (.iaload, 1) := by decide +kernel
theorem d_LW_law_761 : decode b_LW_law 761 = .ok (.i2l, 1) := by decide +kernel
theorem d_LW_law_762 : decode b_LW_law 762 = .ok (.bipush 32, 2) := by decide +kernel
theorem d_LW_law_764 : decode b_LW_law 764 = .ok (.lshl, 1) := by decide +kernel
theorem d_LW_law_765 : decode b_LW_law 765 = .ok (.aload_n 0, 1) := by decide +kernel
theorem d_LW_law_766 : decode b_LW_law 766 = .ok (.iload 4, 2) := by decide +kernel
theorem d_LW_law_768 : decode b_LW_law 768 = .ok (.iconst 2, 1) := by decide +kernel
theorem d_LW_law_769 : decode b_LW_law 769 = .ok (.iadd, 1) := by decide +kernel
theorem d_LW_law_770 : decode b_LW_law 770 = .ok (.iaload, 1) := by decide +kernel
theorem d_LW_law_771 : decode b_LW_law 771 = .ok (.i2l, 1) := by decide +kernel
theorem d_LW_law_772 : decode b_LW_law 772 = .ok (.ldc2_w 105, 3) := by decide +kernel
theorem d_LW_law_775 : decode b_LW_law 775 = .ok (.land, 1) := by decide +kernel
theorem d_LW_law_776 : decode b_LW_law 776 = .ok (.lor, 1) := by decide +kernel
theorem d_LW_law_777 : decode b_LW_law 777 = .ok (.aload_n 3, 1) := by decide +kernel
theorem d_LW_law_778 : decode b_LW_law 778 = .ok (.invokestatic 122, 3) := by decide +kernel
theorem d_LW_law_781 : decode b_LW_law 781 = .ok (.istore 5, 2) := by decide +kernel
theorem d_LW_law_783 : decode b_LW_law 783 = .ok (.aload_n 2, 1) := by decide +kernel
theorem d_LW_law_784 : decode b_LW_law 784 = .ok (.aload_n 0, 1) := by decide +kernel
theorem d_LW_law_785 : decode b_LW_law 785 = .ok (.iload 4, 2) := by decide +kernel
theorem d_LW_law_787 : decode b_LW_law 787 = .ok (.iconst 1, 1) := by decide +kernel
theorem d_LW_law_788 : decode b_LW_law 788 = .ok (.iadd, 1) := by decide +kernel
theorem d_LW_law_789 : decode b_LW_law 789 = .ok (.iaload, 1) := by decide +kernel
theorem d_LW_law_790 : decode b_LW_law 790 = .ok (.i2l, 1) := by decide +kernel
theorem d_LW_law_791 : decode b_LW_law 791 = .ok (.bipush 32, 2) := by decide +kernel
theorem d_LW_law_793 : decode b_LW_law 793 = .ok (.lshl, 1) := by decide +kernel
theorem d_LW_law_794 : decode b_LW_law 794 = .ok (.aload_n 0, 1) := by decide +kernel
theorem d_LW_law_795 : decode b_LW_law 795 = .ok (.iload 4, 2) := by decide +kernel
theorem d_LW_law_797 : decode b_LW_law 797 = .ok (.iconst 2, 1) := by decide +kernel
theorem d_LW_law_798 : decode b_LW_law 798 = .ok (.iadd, 1) := by decide +kernel
theorem d_LW_law_799 : decode b_LW_law 799 = .ok (.iaload, 1) := by decide +kernel
theorem d_LW_law_800 : decode b_LW_law 800 = .ok (.i2l, 1) := by decide +kernel
theorem d_LW_law_801 : decode b_LW_law 801 = .ok (.ldc2_w 105, 3) := by decide +kernel
theorem d_LW_law_804 : decode b_LW_law 804 = .ok (.land, 1) := by decide +kernel
theorem d_LW_law_805 : decode b_LW_law 805 = .ok (.lor, 1) := by decide +kernel
theorem d_LW_law_806 : decode b_LW_law 806 = .ok (.invokevirtual 125, 3) := by decide +kernel
theorem d_LW_law_809 : decode b_LW_law 809 = .ok (.istore 6, 2) := by decide +kernel
theorem d_LW_law_811 : decode b_LW_law 811 = .ok (.aload_n 2, 1) := by decide +kernel
theorem d_LW_law_812 : decode b_LW_law 812 = .ok (.invokevirtual 87, 3) := by decide +kernel
theorem d_LW_law_815 : decode b_LW_law 815 = .ok (.iload 5, 2) := by decide +kernel
theorem d_LW_law_817 : decode b_LW_law 817 = .ok (.if_icmp .eq 5, 3) := by decide +kernel
theorem d_LW_law_820 : decode b_LW_law 820 = .ok (.iconst 0, 1) := by decide +kernel
theorem d_LW_law_821 : decode b_LW_law 821 = .ok (.ireturn, 1) := by decide +kernel
theorem d_LW_law_822 : decode b_LW_law 822 = .ok (.iload 5, 2) := by decide +kernel
theorem d_LW_law_824 : decode b_LW_law 824 = .ok (.ifCond .ne 22, 3) := by decide +kernel
theorem d_LW_law_827 : decode b_LW_law 827 = .ok (.aload_n 3, 1) := by decide +kernel
theorem d_LW_law_828 : decode b_LW_law 828 = .ok (.iconst 0, 1) := by decide +kernel
theorem d_LW_law_829 : decode b_LW_law 829 = .ok (.laload, 1) := by decide +kernel
theorem d_LW_law_830 : decode b_LW_law 830 = .ok (.iload 6, 2) := by decide +kernel
theorem d_LW_law_832 : decode b_LW_law 832 = .ok (.ifCond .eq 7, 3) := by decide +kernel
theorem d_LW_law_835 : decode b_LW_law 835 = .ok (.lconst 1, 1) := by decide +kernel
theorem d_LW_law_836 : decode b_LW_law 836 = .ok (.goto 4, 3) := by decide +kernel
theorem d_LW_law_839 : decode b_LW_law 839 = .ok (.lconst 0, 1) := by decide +kernel
theorem d_LW_law_840 : decode b_LW_law 840 = .ok (.lcmp, 1) := by decide +kernel
theorem d_LW_law_841 : decode b_LW_law 841 = .ok (.ifCond .eq 5, 3) := by decide +kernel
theorem d_LW_law_844 : decode b_LW_law 844 = .ok (.iconst 0, 1) := by decide +kernel
theorem d_LW_law_845 : decode b_LW_law 845 = .ok (.ireturn, 1) := by decide +kernel
theorem d_LW_law_846 : decode b_LW_law 846 = .ok (.goto 383, 3) := by decide +kernel
theorem d_LW_law_849 : decode b_LW_law 849 = .ok (.aload_n 1, 1) := by decide +kernel
theorem d_LW_law_850 : decode b_LW_law 850 = .ok (.aload_n 0, 1) := by decide +kernel
theorem d_LW_law_851 : decode b_LW_law 851 = .ok (.iload 4, 2) := by decide +kernel
theorem d_LW_law_853 : decode b_LW_law 853 = .ok (.iconst 1, 1) := by decide +kernel
theorem d_LW_law_854 : decode b_LW_law 854 = .ok (.iadd, 1) := by decide +kernel
theorem d_LW_law_855 : decode b_LW_law 855 = .ok (.iaload, 1) := by decide +kernel
theorem d_LW_law_856 : decode b_LW_law 856 = .ok (.aload_n 0, 1) := by decide +kernel
theorem d_LW_law_857 : decode b_LW_law 857 = .ok (.iload 4, 2) := by decide +kernel
theorem d_LW_law_859 : decode b_LW_law 859 = .ok (.iconst 2, 1) := by decide +kernel
theorem d_LW_law_860 : decode b_LW_law 860 = .ok (.iadd, 1) := by decide +kernel
theorem d_LW_law_861 : decode b_LW_law 861 = .ok (.iaload, 1) := by decide +kernel
theorem d_LW_law_862 : decode b_LW_law 862 = .ok (.invokestatic 126, 3) := by decide +kernel
theorem d_LW_law_865 : decode b_LW_law 865 = .ok (.istore 5, 2) := by decide +kernel
theorem d_LW_law_867 : decode b_LW_law 867 = .ok (.aload_n 2, 1) := by decide +kernel
theorem d_LW_law_868 : decode b_LW_law 868 = .ok (.aload_n 0, 1) := by decide +kernel
theorem d_LW_law_869 : decode b_LW_law 869 = .ok (.iload 4, 2) := by decide +kernel
theorem d_LW_law_871 : decode b_LW_law 871 = .ok (.iconst 1, 1) := by decide +kernel
theorem d_LW_law_872 : decode b_LW_law 872 = .ok (.iadd, 1) := by decide +kernel
theorem d_LW_law_873 : decode b_LW_law 873 = .ok (.iaload, 1) := by decide +kernel
theorem d_LW_law_874 : decode b_LW_law 874 = .ok (.aload_n 0, 1) := by decide +kernel
theorem d_LW_law_875 : decode b_LW_law 875 = .ok (.iload 4, 2) := by decide +kernel
theorem d_LW_law_877 : decode b_LW_law 877 = .ok (.iconst 2, 1) := by decide +kernel
theorem d_LW_law_878 : decode b_LW_law 878 = .ok (.iadd, 1) := by decide +kernel
theorem d_LW_law_879 : decode b_LW_law 879 = .ok (.iaload, 1) := by decide +kernel
theorem d_LW_law_880 : decode b_LW_law 880 = .ok (.invokevirtual 128, 3) := by decide +kernel
theorem d_LW_law_883 : decode b_LW_law 883 = .ok (.aload_n 2, 1) := by decide +kernel
theorem d_LW_law_884 : decode b_LW_law 884 = .ok (.invokevirtual 87, 3) := by decide +kernel
theorem d_LW_law_887 : decode b_LW_law 887 = .ok (.iload 5, 2) := by decide +kernel
theorem d_LW_law_889 : decode b_LW_law 889 = .ok (.if_icmp .eq 5, 3) := by decide +kernel
theorem d_LW_law_892 : decode b_LW_law 892 = .ok (.iconst 0, 1) := by decide +kernel
theorem d_LW_law_893 : decode b_LW_law 893 = .ok (.ireturn, 1) := by decide +kernel
theorem d_LW_law_894 : decode b_LW_law 894 = .ok (.goto 335, 3) := by decide +kernel
theorem d_LW_law_897 : decode b_LW_law 897 = .ok (.aload_n 1, 1) := by decide +kernel
theorem d_LW_law_898 : decode b_LW_law 898 = .ok (.aload_n 0, 1) := by decide +kernel
theorem d_LW_law_899 : decode b_LW_law 899 = .ok (.iload 4, 2) := by decide +kernel
theorem d_LW_law_901 : decode b_LW_law 901 = .ok (.iconst 1, 1) := by decide +kernel
theorem d_LW_law_902 : decode b_LW_law 902 = .ok (.iadd, 1) := by decide +kernel
theorem d_LW_law_903 : decode b_LW_law 903 = .ok (.iaload, 1) := by decide +kernel
theorem d_LW_law_904 : decode b_LW_law 904 = .ok (.aload_n 0, 1) := by decide +kernel
theorem d_LW_law_905 : decode b_LW_law 905 = .ok (.iload 4, 2) := by decide +kernel
theorem d_LW_law_907 : decode b_LW_law 907 = .ok (.iconst 2, 1) := by decide +kernel
theorem d_LW_law_908 : decode b_LW_law 908 = .ok (.iadd, 1) := by decide +kernel
theorem d_LW_law_909 : decode b_LW_law 909 = .ok (.iaload, 1) := by decide +kernel
theorem d_LW_law_910 : decode b_LW_law 910 = .ok (.ifCond .eq 7, 3) := by decide +kernel
theorem d_LW_law_913 : decode b_LW_law 913 = .ok (.iconst 1, 1) := by decide +kernel
theorem d_LW_law_914 : decode b_LW_law 914 = .ok (.goto 4, 3) := by decide +kernel
theorem d_LW_law_917 : decode b_LW_law 917 = .ok (.iconst 0, 1) := by decide +kernel
theorem d_LW_law_918 : decode b_LW_law 918 = .ok (.aload_n 3, 1) := by decide +kernel
theorem d_LW_law_919 : decode b_LW_law 919 = .ok (.invokestatic 129, 3) := by decide +kernel
theorem d_LW_law_922 : decode b_LW_law 922 = .ok (.istore 5, 2) := by decide +kernel
theorem d_LW_law_924 : decode b_LW_law 924 = .ok (.aload_n 2, 1) := by decide +kernel
theorem d_LW_law_925 : decode b_LW_law 925 = .ok (.aload_n 0, 1) := by decide +kernel
theorem d_LW_law_926 : decode b_LW_law 926 = .ok (.iload 4, 2) := by decide +kernel
theorem d_LW_law_928 : decode b_LW_law 928 = .ok (.iconst 1, 1) := by decide +kernel
theorem d_LW_law_929 : decode b_LW_law 929 = .ok (.iadd, 1) := by decide +kernel
theorem d_LW_law_930 : decode b_LW_law 930 = .ok (.iaload, 1) := by decide +kernel
theorem d_LW_law_931 : decode b_LW_law 931 = .ok (.aload_n 0, 1) := by decide +kernel
theorem d_LW_law_932 : decode b_LW_law 932 = .ok (.iload 4, 2) := by decide +kernel
theorem d_LW_law_934 : decode b_LW_law 934 = .ok (.iconst 2, 1) := by decide +kernel
theorem d_LW_law_935 : decode b_LW_law 935 = .ok (.iadd, 1) := by decide +kernel
theorem d_LW_law_936 : decode b_LW_law 936 = .ok (.iaload, 1) := by decide +kernel
theorem d_LW_law_937 : decode b_LW_law 937 = .ok (.ifCond .eq 7, 3) := by decide +kernel
theorem d_LW_law_940 : decode b_LW_law 940 = .ok (.iconst 1, 1) := by decide +kernel
theorem d_LW_law_941 : decode b_LW_law 941 = .ok (.goto 4, 3) := by decide +kernel
theorem d_LW_law_944 : decode b_LW_law 944 = .ok (.iconst 0, 1) := by decide +kernel
theorem d_LW_law_945 : decode b_LW_law 945 = .ok (.invokevirtual 132, 3) := by decide +kernel
theorem d_LW_law_948 : decode b_LW_law 948 = .ok (.istore 6, 2) := by decide +kernel
theorem d_LW_law_950 : decode b_LW_law 950 = .ok (.aload_n 2, 1) := by decide +kernel
theorem d_LW_law_951 : decode b_LW_law 951 = .ok (.invokevirtual 87, 3) := by decide +kernel
theorem d_LW_law_954 : decode b_LW_law 954 = .ok (.iload 5, 2) := by decide +kernel
theorem d_LW_law_956 : decode b_LW_law 956 = .ok (.if_icmp .eq 5, 3) := by decide +kernel
theorem d_LW_law_959 : decode b_LW_law 959 = .ok (.iconst 0, 1) := by decide +kernel
theorem d_LW_law_960 : decode b_LW_law 960 = .ok (.ireturn, 1) := by decide +kernel
theorem d_LW_law_961 : decode b_LW_law 961 = .ok (.iload 5, 2) := by decide +kernel
theorem d_LW_law_963 : decode b_LW_law 963 = .ok (.ifCond .ne 22, 3) := by decide +kernel
theorem d_LW_law_966 : decode b_LW_law 966 = .ok (.aload_n 3, 1) := by decide +kernel
theorem d_LW_law_967 : decode b_LW_law 967 = .ok (.iconst 0, 1) := by decide +kernel
theorem d_LW_law_968 : decode b_LW_law 968 = .ok (.laload, 1) := by decide +kernel
theorem d_LW_law_969 : decode b_LW_law 969 = .ok (.iload 6, 2) := by decide +kernel
theorem d_LW_law_971 : decode b_LW_law 971 = .ok (.ifCond .eq 7, 3) := by decide +kernel
theorem d_LW_law_974 : decode b_LW_law 974 = .ok (.lconst 1, 1) := by decide +kernel
theorem d_LW_law_975 : decode b_LW_law 975 = .ok (.goto 4, 3) := by decide +kernel
theorem d_LW_law_978 : decode b_LW_law 978 = .ok (.lconst 0, 1) := by decide +kernel
theorem d_LW_law_979 : decode b_LW_law 979 = .ok (.lcmp, 1) := by decide +kernel
theorem d_LW_law_980 : decode b_LW_law 980 = .ok (.ifCond .eq 5, 3) := by decide +kernel
theorem d_LW_law_983 : decode b_LW_law 983 = .ok (.iconst 0, 1) := by decide +kernel
theorem d_LW_law_984 : decode b_LW_law 984 = .ok (.ireturn, 1) := by decide +kernel
theorem d_LW_law_985 : decode b_LW_law 985 = .ok (.goto 244, 3) := by decide +kernel
theorem d_LW_law_988 : decode b_LW_law 988 = .ok (.aload_n 1, 1) := by decide +kernel
theorem d_LW_law_989 : decode b_LW_law 989 = .ok (.aload_n 0, 1) := by decide +kernel
theorem d_LW_law_990 : decode b_LW_law 990 = .ok (.iload 4, 2) := by decide +kernel
theorem d_LW_law_992 : decode b_LW_law 992 = .ok (.iconst 1, 1) := by decide +kernel
theorem d_LW_law_993 : decode b_LW_law 993 = .ok (.iadd, 1) := by decide +kernel
theorem d_LW_law_994 : decode b_LW_law 994 = .ok (.iaload, 1) := by decide +kernel
theorem d_LW_law_995 : decode b_LW_law 995 = .ok (.aload_n 3, 1) := by decide +kernel
theorem d_LW_law_996 : decode b_LW_law 996 = .ok (.invokestatic 133, 3) := by decide +kernel
theorem d_LW_law_999 : decode b_LW_law 999 = .ok (.istore 5, 2) := by decide +kernel
theorem d_LW_law_1001 : decode b_LW_law 1001 = .ok (.aload_n 2, 1) := by decide +kernel
theorem d_LW_law_1002 : decode b_LW_law 1002 = .ok (.aload_n 0, 1) := by decide +kernel
theorem d_LW_law_1003 : decode b_LW_law 1003 = .ok (.iload 4, 2) := by decide +kernel
theorem d_LW_law_1005 : decode b_LW_law 1005 = .ok (.iconst 1, 1) := by decide +kernel
theorem d_LW_law_1006 : decode b_LW_law 1006 = .ok (.iadd, 1) := by decide +kernel
theorem d_LW_law_1007 : decode b_LW_law 1007 = .ok (.iaload, 1) := by decide +kernel
theorem d_LW_law_1008 : decode b_LW_law 1008 = .ok (.invokevirtual 135, 3) := by decide +kernel
theorem d_LW_law_1011 : decode b_LW_law 1011 = .ok (.istore 6, 2) := by decide +kernel
theorem d_LW_law_1013 : decode b_LW_law 1013 = .ok (.aload_n 2, 1) := by decide +kernel
theorem d_LW_law_1014 : decode b_LW_law 1014 = .ok (.invokevirtual 87, 3) := by decide +kernel
theorem d_LW_law_1017 : decode b_LW_law 1017 = .ok (.iload 5, 2) := by decide +kernel
theorem d_LW_law_1019 : decode b_LW_law 1019 = .ok (.if_icmp .eq 5, 3) := by decide +kernel
theorem d_LW_law_1022 : decode b_LW_law 1022 = .ok (.iconst 0, 1) := by decide +kernel
theorem d_LW_law_1023 : decode b_LW_law 1023 = .ok (.ireturn, 1) := by decide +kernel
theorem d_LW_law_1024 : decode b_LW_law 1024 = .ok (.iload 5, 2) := by decide +kernel
theorem d_LW_law_1026 : decode b_LW_law 1026 = .ok (.ifCond .ne 22, 3) := by decide +kernel
theorem d_LW_law_1029 : decode b_LW_law 1029 = .ok (.aload_n 3, 1) := by decide +kernel
theorem d_LW_law_1030 : decode b_LW_law 1030 = .ok (.iconst 0, 1) := by decide +kernel
theorem d_LW_law_1031 : decode b_LW_law 1031 = .ok (.laload, 1) := by decide +kernel
theorem d_LW_law_1032 : decode b_LW_law 1032 = .ok (.iload 6, 2) := by decide +kernel
theorem d_LW_law_1034 : decode b_LW_law 1034 = .ok (.ifCond .eq 7, 3) := by decide +kernel
theorem d_LW_law_1037 : decode b_LW_law 1037 = .ok (.lconst 1, 1) := by decide +kernel
theorem d_LW_law_1038 : decode b_LW_law 1038 = .ok (.goto 4, 3) := by decide +kernel
theorem d_LW_law_1041 : decode b_LW_law 1041 = .ok (.lconst 0, 1) := by decide +kernel
theorem d_LW_law_1042 : decode b_LW_law 1042 = .ok (.lcmp, 1) := by decide +kernel
theorem d_LW_law_1043 : decode b_LW_law 1043 = .ok (.ifCond .eq 5, 3) := by decide +kernel
theorem d_LW_law_1046 : decode b_LW_law 1046 = .ok (.iconst 0, 1) := by decide +kernel
theorem d_LW_law_1047 : decode b_LW_law 1047 = .ok (.ireturn, 1) := by decide +kernel
theorem d_LW_law_1048 : decode b_LW_law 1048 = .ok (.goto 181, 3) := by decide +kernel
theorem d_LW_law_1051 : decode b_LW_law 1051 = .ok (.aload_n 1, 1) := by decide +kernel
theorem d_LW_law_1052 : decode b_LW_law 1052 = .ok (.aload_n 0, 1) := by decide +kernel
theorem d_LW_law_1053 : decode b_LW_law 1053 = .ok (.iload 4, 2) := by decide +kernel
theorem d_LW_law_1055 : decode b_LW_law 1055 = .ok (.iconst 1, 1) := by decide +kernel
theorem d_LW_law_1056 : decode b_LW_law 1056 = .ok (.iadd, 1) := by decide +kernel
theorem d_LW_law_1057 : decode b_LW_law 1057 = .ok (.iaload, 1) := by decide +kernel
theorem d_LW_law_1058 : decode b_LW_law 1058 = .ok (.aload_n 0, 1) := by decide +kernel
theorem d_LW_law_1059 : decode b_LW_law 1059 = .ok (.iload 4, 2) := by decide +kernel
theorem d_LW_law_1061 : decode b_LW_law 1061 = .ok (.iconst 2, 1) := by decide +kernel
theorem d_LW_law_1062 : decode b_LW_law 1062 = .ok (.iadd, 1) := by decide +kernel
theorem d_LW_law_1063 : decode b_LW_law 1063 = .ok (.iaload, 1) := by decide +kernel
theorem d_LW_law_1064 : decode b_LW_law 1064 = .ok (.aload_n 3, 1) := by decide +kernel
theorem d_LW_law_1065 : decode b_LW_law 1065 = .ok (.invokestatic 136, 3) := by decide +kernel
theorem d_LW_law_1068 : decode b_LW_law 1068 = .ok (.istore 5, 2) := by decide +kernel
theorem d_LW_law_1070 : decode b_LW_law 1070 = .ok (.aload_n 2, 1) := by decide +kernel
theorem d_LW_law_1071 : decode b_LW_law 1071 = .ok (.aload_n 0, 1) := by decide +kernel
theorem d_LW_law_1072 : decode b_LW_law 1072 = .ok (.iload 4, 2) := by decide +kernel
theorem d_LW_law_1074 : decode b_LW_law 1074 = .ok (.iconst 1, 1) := by decide +kernel
theorem d_LW_law_1075 : decode b_LW_law 1075 = .ok (.iadd, 1) := by decide +kernel
theorem d_LW_law_1076 : decode b_LW_law 1076 = .ok (.iaload, 1) := by decide +kernel
theorem d_LW_law_1077 : decode b_LW_law 1077 = .ok (.aload_n 0, 1) := by decide +kernel
theorem d_LW_law_1078 : decode b_LW_law 1078 = .ok (.iload 4, 2) := by decide +kernel
theorem d_LW_law_1080 : decode b_LW_law 1080 = .ok (.iconst 2, 1) := by decide +kernel
theorem d_LW_law_1081 : decode b_LW_law 1081 = .ok (.iadd, 1) := by decide +kernel
theorem d_LW_law_1082 : decode b_LW_law 1082 = .ok (.iaload, 1) := by decide +kernel
theorem d_LW_law_1083 : decode b_LW_law 1083 = .ok (.invokevirtual 138, 3) := by decide +kernel
theorem d_LW_law_1086 : decode b_LW_law 1086 = .ok (.lstore 6, 2) := by decide +kernel
theorem d_LW_law_1088 : decode b_LW_law 1088 = .ok (.aload_n 2, 1) := by decide +kernel
theorem d_LW_law_1089 : decode b_LW_law 1089 = .ok (.invokevirtual 87, 3) := by decide +kernel
theorem d_LW_law_1092 : decode b_LW_law 1092 = .ok (.iload 5, 2) := by decide +kernel
theorem d_LW_law_1094 : decode b_LW_law 1094 = .ok (.if_icmp .eq 5, 3) := by decide +kernel
theorem d_LW_law_1097 : decode b_LW_law 1097 = .ok (.iconst 0, 1) := by decide +kernel
theorem d_LW_law_1098 : decode b_LW_law 1098 = .ok (.ireturn, 1) := by decide +kernel
theorem d_LW_law_1099 : decode b_LW_law 1099 = .ok (.iload 5, 2) := by decide +kernel
theorem d_LW_law_1101 : decode b_LW_law 1101 = .ok (.ifCond .ne 14, 3) := by decide +kernel
theorem d_LW_law_1104 : decode b_LW_law 1104 = .ok (.aload_n 3, 1) := by decide +kernel
theorem d_LW_law_1105 : decode b_LW_law 1105 = .ok (.iconst 0, 1) := by decide +kernel
theorem d_LW_law_1106 : decode b_LW_law 1106 = .ok (.laload, 1) := by decide +kernel
theorem d_LW_law_1107 : decode b_LW_law 1107 = .ok (.lload 6, 2) := by decide +kernel
theorem d_LW_law_1109 : decode b_LW_law 1109 = .ok (.lcmp, 1) := by decide +kernel
theorem d_LW_law_1110 : decode b_LW_law 1110 = .ok (.ifCond .eq 5, 3) := by decide +kernel
theorem d_LW_law_1113 : decode b_LW_law 1113 = .ok (.iconst 0, 1) := by decide +kernel
theorem d_LW_law_1114 : decode b_LW_law 1114 = .ok (.ireturn, 1) := by decide +kernel
theorem d_LW_law_1115 : decode b_LW_law 1115 = .ok (.goto 114, 3) := by decide +kernel
theorem d_LW_law_1118 : decode b_LW_law 1118 = .ok (.aload_n 1, 1) := by decide +kernel
theorem d_LW_law_1119 : decode b_LW_law 1119 = .ok (.aload_n 0, 1) := by decide +kernel
theorem d_LW_law_1120 : decode b_LW_law 1120 = .ok (.iload 4, 2) := by decide +kernel
theorem d_LW_law_1122 : decode b_LW_law 1122 = .ok (.iconst 1, 1) := by decide +kernel
theorem d_LW_law_1123 : decode b_LW_law 1123 = .ok (.iadd, 1) := by decide +kernel
theorem d_LW_law_1124 : decode b_LW_law 1124 = .ok (.iaload, 1) := by decide +kernel
theorem d_LW_law_1125 : decode b_LW_law 1125 = .ok (.aload_n 3, 1) := by decide +kernel
theorem d_LW_law_1126 : decode b_LW_law 1126 = .ok (.invokestatic 139, 3) := by decide +kernel
theorem d_LW_law_1129 : decode b_LW_law 1129 = .ok (.istore 5, 2) := by decide +kernel
theorem d_LW_law_1131 : decode b_LW_law 1131 = .ok (.aload_n 2, 1) := by decide +kernel
theorem d_LW_law_1132 : decode b_LW_law 1132 = .ok (.aload_n 0, 1) := by decide +kernel
theorem d_LW_law_1133 : decode b_LW_law 1133 = .ok (.iload 4, 2) := by decide +kernel
theorem d_LW_law_1135 : decode b_LW_law 1135 = .ok (.iconst 1, 1) := by decide +kernel
theorem d_LW_law_1136 : decode b_LW_law 1136 = .ok (.iadd, 1) := by decide +kernel
theorem d_LW_law_1137 : decode b_LW_law 1137 = .ok (.iaload, 1) := by decide +kernel
theorem d_LW_law_1138 : decode b_LW_law 1138 = .ok (.invokevirtual 141, 3) := by decide +kernel
theorem d_LW_law_1141 : decode b_LW_law 1141 = .ok (.istore 6, 2) := by decide +kernel
theorem d_LW_law_1143 : decode b_LW_law 1143 = .ok (.aload_n 2, 1) := by decide +kernel
theorem d_LW_law_1144 : decode b_LW_law 1144 = .ok (.invokevirtual 87, 3) := by decide +kernel
theorem d_LW_law_1147 : decode b_LW_law 1147 = .ok (.iload 5, 2) := by decide +kernel
theorem d_LW_law_1149 : decode b_LW_law 1149 = .ok (.if_icmp .eq 5, 3) := by decide +kernel
theorem d_LW_law_1152 : decode b_LW_law 1152 = .ok (.iconst 0, 1) := by decide +kernel
theorem d_LW_law_1153 : decode b_LW_law 1153 = .ok (.ireturn, 1) := by decide +kernel
theorem d_LW_law_1154 : decode b_LW_law 1154 = .ok (.iload 5, 2) := by decide +kernel
theorem d_LW_law_1156 : decode b_LW_law 1156 = .ok (.ifCond .ne 15, 3) := by decide +kernel
theorem d_LW_law_1159 : decode b_LW_law 1159 = .ok (.aload_n 3, 1) := by decide +kernel
theorem d_LW_law_1160 : decode b_LW_law 1160 = .ok (.iconst 0, 1) := by decide +kernel
theorem d_LW_law_1161 : decode b_LW_law 1161 = .ok (.laload, 1) := by decide +kernel
theorem d_LW_law_1162 : decode b_LW_law 1162 = .ok (.iload 6, 2) := by decide +kernel
theorem d_LW_law_1164 : decode b_LW_law 1164 = .ok (.i2l, 1) := by decide +kernel
theorem d_LW_law_1165 : decode b_LW_law 1165 = .ok (.lcmp, 1) := by decide +kernel
theorem d_LW_law_1166 : decode b_LW_law 1166 = .ok (.ifCond .eq 5, 3) := by decide +kernel
theorem d_LW_law_1169 : decode b_LW_law 1169 = .ok (.iconst 0, 1) := by decide +kernel
theorem d_LW_law_1170 : decode b_LW_law 1170 = .ok (.ireturn, 1) := by decide +kernel
theorem d_LW_law_1171 : decode b_LW_law 1171 = .ok (.goto 58, 3) := by decide +kernel
theorem d_LW_law_1174 : decode b_LW_law 1174 = .ok (.aload_n 1, 1) := by decide +kernel
theorem d_LW_law_1175 : decode b_LW_law 1175 = .ok (.aload_n 0, 1) := by decide +kernel
theorem d_LW_law_1176 : decode b_LW_law 1176 = .ok (.iload 4, 2) := by decide +kernel
theorem d_LW_law_1178 : decode b_LW_law 1178 = .ok (.iconst 1, 1) := by decide +kernel
theorem d_LW_law_1179 : decode b_LW_law 1179 = .ok (.iadd, 1) := by decide +kernel
theorem d_LW_law_1180 : decode b_LW_law 1180 = .ok (.iaload, 1) := by decide +kernel
theorem d_LW_law_1181 : decode b_LW_law 1181 = .ok (.aload_n 3, 1) := by decide +kernel
theorem d_LW_law_1182 : decode b_LW_law 1182 = .ok (.invokestatic 142, 3) := by decide +kernel
theorem d_LW_law_1185 : decode b_LW_law 1185 = .ok (.istore 5, 2) := by decide +kernel
theorem d_LW_law_1187 : decode b_LW_law 1187 = .ok (.aload_n 2, 1) := by decide +kernel
theorem d_LW_law_1188 : decode b_LW_law 1188 = .ok (.aload_n 0, 1) := by decide +kernel
theorem d_LW_law_1189 : decode b_LW_law 1189 = .ok (.iload 4, 2) := by decide +kernel
theorem d_LW_law_1191 : decode b_LW_law 1191 = .ok (.iconst 1, 1) := by decide +kernel
theorem d_LW_law_1192 : decode b_LW_law 1192 = .ok (.iadd, 1) := by decide +kernel
theorem d_LW_law_1193 : decode b_LW_law 1193 = .ok (.iaload, 1) := by decide +kernel
theorem d_LW_law_1194 : decode b_LW_law 1194 = .ok (.invokevirtual 144, 3) := by decide +kernel
theorem d_LW_law_1197 : decode b_LW_law 1197 = .ok (.lstore 6, 2) := by decide +kernel
theorem d_LW_law_1199 : decode b_LW_law 1199 = .ok (.aload_n 2, 1) := by decide +kernel
theorem d_LW_law_1200 : decode b_LW_law 1200 = .ok (.invokevirtual 87, 3) := by decide +kernel
theorem d_LW_law_1203 : decode b_LW_law 1203 = .ok (.iload 5, 2) := by decide +kernel
theorem d_LW_law_1205 : decode b_LW_law 1205 = .ok (.if_icmp .eq 5, 3) := by decide +kernel
theorem d_LW_law_1208 : decode b_LW_law 1208 = .ok (.iconst 0, 1) := by decide +kernel
theorem d_LW_law_1209 : decode b_LW_law 1209 = .ok (.ireturn, 1) := by decide +kernel
theorem d_LW_law_1210 : decode b_LW_law 1210 = .ok (.iload 5, 2) := by decide +kernel
theorem d_LW_law_1212 : decode b_LW_law 1212 = .ok (.ifCond .ne 14, 3) := by decide +kernel
theorem d_LW_law_1215 : decode b_LW_law 1215 = .ok (.aload_n 3, 1) := by decide +kernel
theorem d_LW_law_1216 : decode b_LW_law 1216 = .ok (.iconst 0, 1) := by decide +kernel
theorem d_LW_law_1217 : decode b_LW_law 1217 = .ok (.laload, 1) := by decide +kernel
theorem d_LW_law_1218 : decode b_LW_law 1218 = .ok (.lload 6, 2) := by decide +kernel
theorem d_LW_law_1220 : decode b_LW_law 1220 = .ok (.lcmp, 1) := by decide +kernel
theorem d_LW_law_1221 : decode b_LW_law 1221 = .ok (.ifCond .eq 5, 3) := by decide +kernel
theorem d_LW_law_1224 : decode b_LW_law 1224 = .ok (.iconst 0, 1) := by decide +kernel
theorem d_LW_law_1225 : decode b_LW_law 1225 = .ok (.ireturn, 1) := by decide +kernel
theorem d_LW_law_1226 : decode b_LW_law 1226 = .ok (.goto 3, 3) := by decide +kernel
theorem d_LW_law_1229 : decode b_LW_law 1229 = .ok (.iinc 4 8, 3) := by decide +kernel
theorem d_LW_law_1232 : decode b_LW_law 1232 = .ok (.goto (-1209), 3) := by decide +kernel
theorem d_LW_law_1235 : decode b_LW_law 1235 = .ok (.iconst 1, 1) := by decide +kernel
theorem d_LW_law_1236 : decode b_LW_law 1236 = .ok (.ireturn, 1) := by decide +kernel
