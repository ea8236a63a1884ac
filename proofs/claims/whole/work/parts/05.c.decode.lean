/-! decode rows -/
theorem d_ST_init_0 : decode b_ST_init 0 = .ok (.aload_n 0, 1) := by decide +kernel
theorem d_ST_init_1 : decode b_ST_init 1 = .ok (.invokespecial 1, 3) := by decide +kernel
theorem d_ST_init_4 : decode b_ST_init 4 = .ok (.aload_n 0, 1) := by decide +kernel
theorem d_ST_init_5 : decode b_ST_init 5 = .ok (.new 7, 3) := by decide +kernel
theorem d_ST_init_8 : decode b_ST_init 8 = .ok (.dup, 1) := by decide +kernel
theorem d_ST_init_9 : decode b_ST_init 9 = .ok (.invokespecial 9, 3) := by decide +kernel
theorem d_ST_init_12 : decode b_ST_init 12 = .ok (.putfield 10, 3) := by decide +kernel
theorem d_ST_init_15 : decode b_ST_init 15 = .ok (.aload_n 0, 1) := by decide +kernel
theorem d_ST_init_16 : decode b_ST_init 16 = .ok (.new 16, 3) := by decide +kernel
theorem d_ST_init_19 : decode b_ST_init 19 = .ok (.dup, 1) := by decide +kernel
theorem d_ST_init_20 : decode b_ST_init 20 = .ok (.invokespecial 18, 3) := by decide +kernel
theorem d_ST_init_23 : decode b_ST_init 23 = .ok (.putfield 19, 3) := by decide +kernel
theorem d_ST_init_26 : decode b_ST_init 26 = .ok (.aload_n 0, 1) := by decide +kernel
theorem d_ST_init_27 : decode b_ST_init 27 = .ok (.bipush 12, 2) := by decide +kernel
theorem d_ST_init_29 : decode b_ST_init 29 = .ok (.anewarray 23, 3) := by decide +kernel
theorem d_ST_init_32 : decode b_ST_init 32 = .ok (.putfield 25, 3) := by decide +kernel
theorem d_ST_init_35 : decode b_ST_init 35 = .ok (.iconst 0, 1) := by decide +kernel
theorem d_ST_init_36 : decode b_ST_init 36 = .ok (.istore_n 1, 1) := by decide +kernel
theorem d_ST_init_37 : decode b_ST_init 37 = .ok (.iload_n 1, 1) := by decide +kernel
theorem d_ST_init_38 : decode b_ST_init 38 = .ok (.bipush 12, 2) := by decide +kernel
theorem d_ST_init_40 : decode b_ST_init 40 = .ok (.if_icmp .ge 22, 3) := by decide +kernel
theorem d_ST_init_43 : decode b_ST_init 43 = .ok (.aload_n 0, 1) := by decide +kernel
theorem d_ST_init_44 : decode b_ST_init 44 = .ok (.getfield 25, 3) := by decide +kernel
theorem d_ST_init_47 : decode b_ST_init 47 = .ok (.iload_n 1, 1) := by decide +kernel
theorem d_ST_init_48 : decode b_ST_init 48 = .ok (.new 23, 3) := by decide +kernel
theorem d_ST_init_51 : decode b_ST_init 51 = .ok (.dup, 1) := by decide +kernel
theorem d_ST_init_52 : decode b_ST_init 52 = .ok (.invokespecial 29, 3) := by decide +kernel
theorem d_ST_init_55 : decode b_ST_init 55 = .ok (.aastore, 1) := by decide +kernel
theorem d_ST_init_56 : decode b_ST_init 56 = .ok (.iinc 1 1, 3) := by decide +kernel
theorem d_ST_init_59 : decode b_ST_init 59 = .ok (.goto (-22), 3) := by decide +kernel
theorem d_ST_init_62 : decode b_ST_init 62 = .ok (.aload_n 0, 1) := by decide +kernel
theorem d_ST_init_63 : decode b_ST_init 63 = .ok (.bipush 12, 2) := by decide +kernel
theorem d_ST_init_65 : decode b_ST_init 65 = .ok (.newarray .int, 2) := by decide +kernel
theorem d_ST_init_67 : decode b_ST_init 67 = .ok (.putfield 30, 3) := by decide +kernel
theorem d_ST_init_70 : decode b_ST_init 70 = .ok (.return_, 1) := by decide +kernel
theorem d_ST_deal_0 : decode b_ST_deal 0 = .ok (.iload_n 1, 1) := by decide +kernel
theorem d_ST_deal_1 : decode b_ST_deal 1 = .ok (.invokestatic 34, 3) := by decide +kernel
theorem d_ST_deal_4 : decode b_ST_deal 4 = .ok (.ifCond .eq 15, 3) := by decide +kernel
theorem d_ST_deal_7 : decode b_ST_deal 7 = .ok (.iload_n 2, 1) := by decide +kernel
theorem d_ST_deal_8 : decode b_ST_deal 8 = .ok (.invokestatic 34, 3) := by decide +kernel
theorem d_ST_deal_11 : decode b_ST_deal 11 = .ok (.ifCond .eq 8, 3) := by decide +kernel
theorem d_ST_deal_14 : decode b_ST_deal 14 = .ok (.iload_n 1, 1) := by decide +kernel
theorem d_ST_deal_15 : decode b_ST_deal 15 = .ok (.iload_n 2, 1) := by decide +kernel
theorem d_ST_deal_16 : decode b_ST_deal 16 = .ok (.if_icmp .ne 13, 3) := by decide +kernel
theorem d_ST_deal_19 : decode b_ST_deal 19 = .ok (.new 38, 3) := by decide +kernel
theorem d_ST_deal_22 : decode b_ST_deal 22 = .ok (.dup, 1) := by decide +kernel
theorem d_ST_deal_23 : decode b_ST_deal 23 = .ok (.ldc 40, 2) := by decide +kernel
theorem d_ST_deal_25 : decode b_ST_deal 25 = .ok (.invokespecial 42, 3) := by decide +kernel
theorem d_ST_deal_28 : decode b_ST_deal 28 = .ok (.athrow, 1) := by decide +kernel
theorem d_ST_deal_29 : decode b_ST_deal 29 = .ok (.iload_n 3, 1) := by decide +kernel
theorem d_ST_deal_30 : decode b_ST_deal 30 = .ok (.ifCond .lt 8, 3) := by decide +kernel
theorem d_ST_deal_33 : decode b_ST_deal 33 = .ok (.iload 4, 2) := by decide +kernel
theorem d_ST_deal_35 : decode b_ST_deal 35 = .ok (.ifCond .ge 13, 3) := by decide +kernel
theorem d_ST_deal_38 : decode b_ST_deal 38 = .ok (.new 38, 3) := by decide +kernel
theorem d_ST_deal_41 : decode b_ST_deal 41 = .ok (.dup, 1) := by decide +kernel
theorem d_ST_deal_42 : decode b_ST_deal 42 = .ok (.ldc 45, 2) := by decide +kernel
theorem d_ST_deal_44 : decode b_ST_deal 44 = .ok (.invokespecial 42, 3) := by decide +kernel
theorem d_ST_deal_47 : decode b_ST_deal 47 = .ok (.athrow, 1) := by decide +kernel
theorem d_ST_deal_48 : decode b_ST_deal 48 = .ok (.iload 5, 2) := by decide +kernel
theorem d_ST_deal_50 : decode b_ST_deal 50 = .ok (.iconst 2, 1) := by decide +kernel
theorem d_ST_deal_51 : decode b_ST_deal 51 = .ok (.if_icmp .lt 27, 3) := by decide +kernel
theorem d_ST_deal_54 : decode b_ST_deal 54 = .ok (.iload 5, 2) := by decide +kernel
theorem d_ST_deal_56 : decode b_ST_deal 56 = .ok (.iload_n 1, 1) := by decide +kernel
theorem d_ST_deal_57 : decode b_ST_deal 57 = .ok (.iload_n 2, 1) := by decide +kernel
theorem d_ST_deal_58 : decode b_ST_deal 58 = .ok (.imul, 1) := by decide +kernel
theorem d_ST_deal_59 : decode b_ST_deal 59 = .ok (.iconst 2, 1) := by decide +kernel
theorem d_ST_deal_60 : decode b_ST_deal 60 = .ok (.isub, 1) := by decide +kernel
theorem d_ST_deal_61 : decode b_ST_deal 61 = .ok (.if_icmp .gt 17, 3) := by decide +kernel
theorem d_ST_deal_64 : decode b_ST_deal 64 = .ok (.iload 5, 2) := by decide +kernel
theorem d_ST_deal_66 : decode b_ST_deal 66 = .ok (.iload_n 1, 1) := by decide +kernel
theorem d_ST_deal_67 : decode b_ST_deal 67 = .ok (.irem, 1) := by decide +kernel
theorem d_ST_deal_68 : decode b_ST_deal 68 = .ok (.ifCond .eq 10, 3) := by decide +kernel
theorem d_ST_deal_71 : decode b_ST_deal 71 = .ok (.iload 5, 2) := by decide +kernel
theorem d_ST_deal_73 : decode b_ST_deal 73 = .ok (.iload_n 2, 1) := by decide +kernel
theorem d_ST_deal_74 : decode b_ST_deal 74 = .ok (.irem, 1) := by decide +kernel
theorem d_ST_deal_75 : decode b_ST_deal 75 = .ok (.ifCond .ne 13, 3) := by decide +kernel
theorem d_ST_deal_78 : decode b_ST_deal 78 = .ok (.new 38, 3) := by decide +kernel
theorem d_ST_deal_81 : decode b_ST_deal 81 = .ok (.dup, 1) := by decide +kernel
theorem d_ST_deal_82 : decode b_ST_deal 82 = .ok (.ldc 47, 2) := by decide +kernel
theorem d_ST_deal_84 : decode b_ST_deal 84 = .ok (.invokespecial 42, 3) := by decide +kernel
theorem d_ST_deal_87 : decode b_ST_deal 87 = .ok (.athrow, 1) := by decide +kernel
theorem d_ST_deal_88 : decode b_ST_deal 88 = .ok (.aload_n 0, 1) := by decide +kernel
theorem d_ST_deal_89 : decode b_ST_deal 89 = .ok (.getfield 10, 3) := by decide +kernel
theorem d_ST_deal_92 : decode b_ST_deal 92 = .ok (.iload_n 1, 1) := by decide +kernel
theorem d_ST_deal_93 : decode b_ST_deal 93 = .ok (.i2l, 1) := by decide +kernel
theorem d_ST_deal_94 : decode b_ST_deal 94 = .ok (.iload_n 2, 1) := by decide +kernel
theorem d_ST_deal_95 : decode b_ST_deal 95 = .ok (.i2l, 1) := by decide +kernel
theorem d_ST_deal_96 : decode b_ST_deal 96 = .ok (.iload 5, 2) := by decide +kernel
theorem d_ST_deal_98 : decode b_ST_deal 98 = .ok (.i2l, 1) := by decide +kernel
theorem d_ST_deal_99 : decode b_ST_deal 99 = .ok (.invokevirtual 49, 3) := by decide +kernel
theorem d_ST_deal_102 : decode b_ST_deal 102 = .ok (.aload_n 0, 1) := by decide +kernel
theorem d_ST_deal_103 : decode b_ST_deal 103 = .ok (.getfield 10, 3) := by decide +kernel
theorem d_ST_deal_106 : decode b_ST_deal 106 = .ok (.iload_n 3, 1) := by decide +kernel
theorem d_ST_deal_107 : decode b_ST_deal 107 = .ok (.i2l, 1) := by decide +kernel
theorem d_ST_deal_108 : decode b_ST_deal 108 = .ok (.iload 4, 2) := by decide +kernel
theorem d_ST_deal_110 : decode b_ST_deal 110 = .ok (.i2l, 1) := by decide +kernel
theorem d_ST_deal_111 : decode b_ST_deal 111 = .ok (.invokevirtual 53, 3) := by decide +kernel
theorem d_ST_deal_114 : decode b_ST_deal 114 = .ok (.aload_n 0, 1) := by decide +kernel
theorem d_ST_deal_115 : decode b_ST_deal 115 = .ok (.iconst 0, 1) := by decide +kernel
theorem d_ST_deal_116 : decode b_ST_deal 116 = .ok (.putfield 57, 3) := by decide +kernel
theorem d_ST_deal_119 : decode b_ST_deal 119 = .ok (.aload_n 0, 1) := by decide +kernel
theorem d_ST_deal_120 : decode b_ST_deal 120 = .ok (.iconst 0, 1) := by decide +kernel
theorem d_ST_deal_121 : decode b_ST_deal 121 = .ok (.putfield 61, 3) := by decide +kernel
theorem d_ST_deal_124 : decode b_ST_deal 124 = .ok (.aload_n 0, 1) := by decide +kernel
theorem d_ST_deal_125 : decode b_ST_deal 125 = .ok (.iconst 0, 1) := by decide +kernel
theorem d_ST_deal_126 : decode b_ST_deal 126 = .ok (.putfield 64, 3) := by decide +kernel
theorem d_ST_deal_129 : decode b_ST_deal 129 = .ok (.return_, 1) := by decide +kernel
theorem d_ST_put_0 : decode b_ST_put 0 = .ok (.iload_n 2, 1) := by decide +kernel
theorem d_ST_put_1 : decode b_ST_put 1 = .ok (.iconst 1, 1) := by decide +kernel
theorem d_ST_put_2 : decode b_ST_put 2 = .ok (.if_icmp .lt 19, 3) := by decide +kernel
theorem d_ST_put_5 : decode b_ST_put 5 = .ok (.iload_n 2, 1) := by decide +kernel
theorem d_ST_put_6 : decode b_ST_put 6 = .ok (.iconst 4, 1) := by decide +kernel
theorem d_ST_put_7 : decode b_ST_put 7 = .ok (.if_icmp .gt 14, 3) := by decide +kernel
theorem d_ST_put_10 : decode b_ST_put 10 = .ok (.iload_n 2, 1) := by decide +kernel
theorem d_ST_put_11 : decode b_ST_put 11 = .ok (.aload_n 0, 1) := by decide +kernel
theorem d_ST_put_12 : decode b_ST_put 12 = .ok (.getfield 19, 3) := by decide +kernel
theorem d_ST_put_15 : decode b_ST_put 15 = .ok (.invokevirtual 67, 3) := by decide +kernel
theorem d_ST_put_18 : decode b_ST_put 18 = .ok (.if_icmp .le 13, 3) := by decide +kernel
theorem d_ST_put_21 : decode b_ST_put 21 = .ok (.new 38, 3) := by decide +kernel
theorem d_ST_put_24 : decode b_ST_put 24 = .ok (.dup, 1) := by decide +kernel
theorem d_ST_put_25 : decode b_ST_put 25 = .ok (.ldc 71, 2) := by decide +kernel
theorem d_ST_put_27 : decode b_ST_put 27 = .ok (.invokespecial 42, 3) := by decide +kernel
theorem d_ST_put_30 : decode b_ST_put 30 = .ok (.athrow, 1) := by decide +kernel
theorem d_ST_put_31 : decode b_ST_put 31 = .ok (.aload_n 0, 1) := by decide +kernel
theorem d_ST_put_32 : decode b_ST_put 32 = .ok (.getfield 19, 3) := by decide +kernel
theorem d_ST_put_35 : decode b_ST_put 35 = .ok (.iload_n 1, 1) := by decide +kernel
theorem d_ST_put_36 : decode b_ST_put 36 = .ok (.iload_n 2, 1) := by decide +kernel
theorem d_ST_put_37 : decode b_ST_put 37 = .ok (.invokevirtual 73, 3) := by decide +kernel
theorem d_ST_put_40 : decode b_ST_put 40 = .ok (.aload_n 0, 1) := by decide +kernel
theorem d_ST_put_41 : decode b_ST_put 41 = .ok (.getfield 19, 3) := by decide +kernel
theorem d_ST_put_44 : decode b_ST_put 44 = .ok (.invokevirtual 77, 3) := by decide +kernel
theorem d_ST_put_47 : decode b_ST_put 47 = .ok (.ireturn, 1) := by decide +kernel
theorem d_ST_motion_0 : decode b_ST_motion 0 = .ok (.aload_n 0, 1) := by decide +kernel
theorem d_ST_motion_1 : decode b_ST_motion 1 = .ok (.invokevirtual 80, 3) := by decide +kernel
theorem d_ST_motion_4 : decode b_ST_motion 4 = .ok (.aload_n 0, 1) := by decide +kernel
theorem d_ST_motion_5 : decode b_ST_motion 5 = .ok (.getfield 57, 3) := by decide +kernel
theorem d_ST_motion_8 : decode b_ST_motion 8 = .ok (.bipush 12, 2) := by decide +kernel
theorem d_ST_motion_10 : decode b_ST_motion 10 = .ok (.if_icmp .lt 13, 3) := by decide +kernel
theorem d_ST_motion_13 : decode b_ST_motion 13 = .ok (.new 83, 3) := by decide +kernel
theorem d_ST_motion_16 : decode b_ST_motion 16 = .ok (.dup, 1) := by decide +kernel
theorem d_ST_motion_17 : decode b_ST_motion 17 = .ok (.ldc 85, 2) := by decide +kernel
theorem d_ST_motion_19 : decode b_ST_motion 19 = .ok (.invokespecial 87, 3) := by decide +kernel
theorem d_ST_motion_22 : decode b_ST_motion 22 = .ok (.athrow, 1) := by decide +kernel
theorem d_ST_motion_23 : decode b_ST_motion 23 = .ok (.aload_n 0, 1) := by decide +kernel
theorem d_ST_motion_24 : decode b_ST_motion 24 = .ok (.getfield 25, 3) := by decide +kernel
theorem d_ST_motion_27 : decode b_ST_motion 27 = .ok (.aload_n 0, 1) := by decide +kernel
theorem d_ST_motion_28 : decode b_ST_motion 28 = .ok (.getfield 57, 3) := by decide +kernel
theorem d_ST_motion_31 : decode b_ST_motion 31 = .ok (.aaload, 1) := by decide +kernel
theorem d_ST_motion_32 : decode b_ST_motion 32 = .ok (.aload_n 0, 1) := by decide +kernel
theorem d_ST_motion_33 : decode b_ST_motion 33 = .ok (.getfield 10, 3) := by decide +kernel
theorem d_ST_motion_36 : decode b_ST_motion 36 = .ok (.aload_n 0, 1) := by decide +kernel
theorem d_ST_motion_37 : decode b_ST_motion 37 = .ok (.getfield 19, 3) := by decide +kernel
theorem d_ST_motion_40 : decode b_ST_motion 40 = .ok (.invokevirtual 88, 3) := by decide +kernel
theorem d_ST_motion_43 : decode b_ST_motion 43 = .ok (.invokevirtual 92, 3) := by decide +kernel
theorem d_ST_motion_46 : decode b_ST_motion 46 = .ok (.aload_n 0, 1) := by decide +kernel
theorem d_ST_motion_47 : decode b_ST_motion 47 = .ok (.getfield 19, 3) := by decide +kernel
theorem d_ST_motion_50 : decode b_ST_motion 50 = .ok (.invokevirtual 95, 3) := by decide +kernel
theorem d_ST_motion_53 : decode b_ST_motion 53 = .ok (.aload_n 0, 1) := by decide +kernel
theorem d_ST_motion_54 : decode b_ST_motion 54 = .ok (.dup, 1) := by decide +kernel
theorem d_ST_motion_55 : decode b_ST_motion 55 = .ok (.getfield 57, 3) := by decide +kernel
theorem d_ST_motion_58 : decode b_ST_motion 58 = .ok (.iconst 1, 1) := by decide +kernel
theorem d_ST_motion_59 : decode b_ST_motion 59 = .ok (.iadd, 1) := by decide +kernel
theorem d_ST_motion_60 : decode b_ST_motion 60 = .ok (.putfield 57, 3) := by decide +kernel
theorem d_ST_motion_63 : decode b_ST_motion 63 = .ok (.aload_n 0, 1) := by decide +kernel
theorem d_ST_motion_64 : decode b_ST_motion 64 = .ok (.getfield 57, 3) := by decide +kernel
theorem d_ST_motion_67 : decode b_ST_motion 67 = .ok (.iconst 1, 1) := by decide +kernel
theorem d_ST_motion_68 : decode b_ST_motion 68 = .ok (.isub, 1) := by decide +kernel
theorem d_ST_motion_69 : decode b_ST_motion 69 = .ok (.ireturn, 1) := by decide +kernel
theorem d_ST_consent_0 : decode b_ST_consent 0 = .ok (.aload_n 0, 1) := by decide +kernel
theorem d_ST_consent_1 : decode b_ST_consent 1 = .ok (.iload_n 1, 1) := by decide +kernel
theorem d_ST_consent_2 : decode b_ST_consent 2 = .ok (.invokevirtual 98, 3) := by decide +kernel
theorem d_ST_consent_5 : decode b_ST_consent 5 = .ok (.astore_n 3, 1) := by decide +kernel
theorem d_ST_consent_6 : decode b_ST_consent 6 = .ok (.iload_n 2, 1) := by decide +kernel
theorem d_ST_consent_7 : decode b_ST_consent 7 = .ok (.invokestatic 102, 3) := by decide +kernel
theorem d_ST_consent_10 : decode b_ST_consent 10 = .ok (.aload_n 3, 1) := by decide +kernel
theorem d_ST_consent_11 : decode b_ST_consent 11 = .ok (.invokestatic 106, 3) := by decide +kernel
theorem d_ST_consent_14 : decode b_ST_consent 14 = .ok (.aload_n 3, 1) := by decide +kernel
theorem d_ST_consent_15 : decode b_ST_consent 15 = .ok (.iload_n 2, 1) := by decide +kernel
theorem d_ST_consent_16 : decode b_ST_consent 16 = .ok (.invokestatic 110, 3) := by decide +kernel
theorem d_ST_consent_19 : decode b_ST_consent 19 = .ok (.aload_n 0, 1) := by decide +kernel
theorem d_ST_consent_20 : decode b_ST_consent 20 = .ok (.getfield 64, 3) := by decide +kernel
theorem d_ST_consent_23 : decode b_ST_consent 23 = .ok (.iload_n 2, 1) := by decide +kernel
theorem d_ST_consent_24 : decode b_ST_consent 24 = .ok (.invokestatic 114, 3) := by decide +kernel
theorem d_ST_consent_27 : decode b_ST_consent 27 = .ok (.ifCond .eq 13, 3) := by decide +kernel
theorem d_ST_consent_30 : decode b_ST_consent 30 = .ok (.new 83, 3) := by decide +kernel
theorem d_ST_consent_33 : decode b_ST_consent 33 = .ok (.dup, 1) := by decide +kernel
theorem d_ST_consent_34 : decode b_ST_consent 34 = .ok (.ldc 118, 2) := by decide +kernel
theorem d_ST_consent_36 : decode b_ST_consent 36 = .ok (.invokespecial 87, 3) := by decide +kernel
theorem d_ST_consent_39 : decode b_ST_consent 39 = .ok (.athrow, 1) := by decide +kernel
theorem d_ST_consent_40 : decode b_ST_consent 40 = .ok (.aload_n 0, 1) := by decide +kernel
theorem d_ST_consent_41 : decode b_ST_consent 41 = .ok (.getfield 10, 3) := by decide +kernel
theorem d_ST_consent_44 : decode b_ST_consent 44 = .ok (.aload_n 3, 1) := by decide +kernel
theorem d_ST_consent_45 : decode b_ST_consent 45 = .ok (.iload_n 2, 1) := by decide +kernel
theorem d_ST_consent_46 : decode b_ST_consent 46 = .ok (.invokevirtual 120, 3) := by decide +kernel
theorem d_ST_consent_49 : decode b_ST_consent 49 = .ok (.return_, 1) := by decide +kernel
theorem d_ST_object_0 : decode b_ST_object 0 = .ok (.aload_n 0, 1) := by decide +kernel
theorem d_ST_object_1 : decode b_ST_object 1 = .ok (.iload_n 1, 1) := by decide +kernel
theorem d_ST_object_2 : decode b_ST_object 2 = .ok (.invokevirtual 98, 3) := by decide +kernel
theorem d_ST_object_5 : decode b_ST_object 5 = .ok (.astore_n 3, 1) := by decide +kernel
theorem d_ST_object_6 : decode b_ST_object 6 = .ok (.iload_n 2, 1) := by decide +kernel
theorem d_ST_object_7 : decode b_ST_object 7 = .ok (.invokestatic 102, 3) := by decide +kernel
theorem d_ST_object_10 : decode b_ST_object 10 = .ok (.aload_n 3, 1) := by decide +kernel
theorem d_ST_object_11 : decode b_ST_object 11 = .ok (.invokestatic 106, 3) := by decide +kernel
theorem d_ST_object_14 : decode b_ST_object 14 = .ok (.aload_n 3, 1) := by decide +kernel
theorem d_ST_object_15 : decode b_ST_object 15 = .ok (.iload_n 2, 1) := by decide +kernel
theorem d_ST_object_16 : decode b_ST_object 16 = .ok (.invokestatic 110, 3) := by decide +kernel
theorem d_ST_object_19 : decode b_ST_object 19 = .ok (.aload_n 3, 1) := by decide +kernel
theorem d_ST_object_20 : decode b_ST_object 20 = .ok (.iload_n 2, 1) := by decide +kernel
theorem d_ST_object_21 : decode b_ST_object 21 = .ok (.invokevirtual 123, 3) := by decide +kernel
theorem d_ST_object_24 : decode b_ST_object 24 = .ok (.return_, 1) := by decide +kernel
theorem d_ST_file_0 : decode b_ST_file 0 = .ok (.aload_n 0, 1) := by decide +kernel
theorem d_ST_file_1 : decode b_ST_file 1 = .ok (.iload_n 1, 1) := by decide +kernel
theorem d_ST_file_2 : decode b_ST_file 2 = .ok (.invokevirtual 98, 3) := by decide +kernel
theorem d_ST_file_5 : decode b_ST_file 5 = .ok (.astore 8, 2) := by decide +kernel
theorem d_ST_file_7 : decode b_ST_file 7 = .ok (.iload_n 2, 1) := by decide +kernel
theorem d_ST_file_8 : decode b_ST_file 8 = .ok (.invokestatic 102, 3) := by decide +kernel
theorem d_ST_file_11 : decode b_ST_file 11 = .ok (.aload 8, 2) := by decide +kernel
theorem d_ST_file_13 : decode b_ST_file 13 = .ok (.invokestatic 106, 3) := by decide +kernel
theorem d_ST_file_16 : decode b_ST_file 16 = .ok (.aload 8, 2) := by decide +kernel
theorem d_ST_file_18 : decode b_ST_file 18 = .ok (.getfield 126, 3) := by decide +kernel
theorem d_ST_file_21 : decode b_ST_file 21 = .ok (.iload_n 2, 1) := by decide +kernel
theorem d_ST_file_22 : decode b_ST_file 22 = .ok (.invokestatic 114, 3) := by decide +kernel
theorem d_ST_file_25 : decode b_ST_file 25 = .ok (.ifCond .eq 13, 3) := by decide +kernel
theorem d_ST_file_28 : decode b_ST_file 28 = .ok (.new 83, 3) := by decide +kernel
theorem d_ST_file_31 : decode b_ST_file 31 = .ok (.dup, 1) := by decide +kernel
theorem d_ST_file_32 : decode b_ST_file 32 = .ok (.ldc 129, 2) := by decide +kernel
theorem d_ST_file_34 : decode b_ST_file 34 = .ok (.invokespecial 87, 3) := by decide +kernel
theorem d_ST_file_37 : decode b_ST_file 37 = .ok (.athrow, 1) := by decide +kernel
theorem d_ST_file_38 : decode b_ST_file 38 = .ok (.aload 8, 2) := by decide +kernel
theorem d_ST_file_40 : decode b_ST_file 40 = .ok (.iload_n 2, 1) := by decide +kernel
theorem d_ST_file_41 : decode b_ST_file 41 = .ok (.lload_n 3, 1) := by decide +kernel
theorem d_ST_file_42 : decode b_ST_file 42 = .ok (.iload 5, 2) := by decide +kernel
theorem d_ST_file_44 : decode b_ST_file 44 = .ok (.lload 6, 2) := by decide +kernel
theorem d_ST_file_46 : decode b_ST_file 46 = .ok (.invokevirtual 131, 3) := by decide +kernel
theorem d_ST_file_49 : decode b_ST_file 49 = .ok (.return_, 1) := by decide +kernel
theorem d_ST_partial_0 : decode b_ST_partial 0 = .ok (.aload_n 0, 1) := by decide +kernel
theorem d_ST_partial_1 : decode b_ST_partial 1 = .ok (.iload_n 1, 1) := by decide +kernel
theorem d_ST_partial_2 : decode b_ST_partial 2 = .ok (.invokevirtual 98, 3) := by decide +kernel
theorem d_ST_partial_5 : decode b_ST_partial 5 = .ok (.astore 4, 2) := by decide +kernel
theorem d_ST_partial_7 : decode b_ST_partial 7 = .ok (.iload_n 2, 1) := by decide +kernel
theorem d_ST_partial_8 : decode b_ST_partial 8 = .ok (.invokestatic 102, 3) := by decide +kernel
theorem d_ST_partial_11 : decode b_ST_partial 11 = .ok (.aload 4, 2) := by decide +kernel
theorem d_ST_partial_13 : decode b_ST_partial 13 = .ok (.getfield 135, 3) := by decide +kernel
theorem d_ST_partial_16 : decode b_ST_partial 16 = .ok (.iload_n 2, 1) := by decide +kernel
theorem d_ST_partial_17 : decode b_ST_partial 17 = .ok (.invokestatic 114, 3) := by decide +kernel
theorem d_ST_partial_20 : decode b_ST_partial 20 = .ok (.ifCond .ne 13, 3) := by decide +kernel
theorem d_ST_partial_23 : decode b_ST_partial 23 = .ok (.new 138, 3) := by decide +kernel
theorem d_ST_partial_26 : decode b_ST_partial 26 = .ok (.dup, 1) := by decide +kernel
theorem d_ST_partial_27 : decode b_ST_partial 27 = .ok (.ldc 140, 2) := by decide +kernel
theorem d_ST_partial_29 : decode b_ST_partial 29 = .ok (.invokespecial 142, 3) := by decide +kernel
theorem d_ST_partial_32 : decode b_ST_partial 32 = .ok (.athrow, 1) := by decide +kernel
theorem d_ST_partial_33 : decode b_ST_partial 33 = .ok (.iload_n 3, 1) := by decide +kernel
theorem d_ST_partial_34 : decode b_ST_partial 34 = .ok (.tableswitch 51 0 2 #[26, 34, 43], 26) := by decide +kernel
theorem d_ST_partial_60 : decode b_ST_partial 60 = .ok (.aload 4, 2) := by decide +kernel
theorem d_ST_partial_62 : decode b_ST_partial 62 = .ok (.getfield 143, 3) := by decide +kernel
theorem d_ST_partial_65 : decode b_ST_partial 65 = .ok (.iload_n 2, 1) := by decide +kernel
theorem d_ST_partial_66 : decode b_ST_partial 66 = .ok (.laload, 1) := by decide +kernel
theorem d_ST_partial_67 : decode b_ST_partial 67 = .ok (.lreturn, 1) := by decide +kernel
theorem d_ST_partial_68 : decode b_ST_partial 68 = .ok (.aload 4, 2) := by decide +kernel
theorem d_ST_partial_70 : decode b_ST_partial 70 = .ok (.getfield 147, 3) := by decide +kernel
theorem d_ST_partial_73 : decode b_ST_partial 73 = .ok (.iload_n 2, 1) := by decide +kernel
theorem d_ST_partial_74 : decode b_ST_partial 74 = .ok (.iaload, 1) := by decide +kernel
theorem d_ST_partial_75 : decode b_ST_partial 75 = .ok (.i2l, 1) := by decide +kernel
theorem d_ST_partial_76 : decode b_ST_partial 76 = .ok (.lreturn, 1) := by decide +kernel
theorem d_ST_partial_77 : decode b_ST_partial 77 = .ok (.aload 4, 2) := by decide +kernel
theorem d_ST_partial_79 : decode b_ST_partial 79 = .ok (.getfield 150, 3) := by decide +kernel
theorem d_ST_partial_82 : decode b_ST_partial 82 = .ok (.iload_n 2, 1) := by decide +kernel
theorem d_ST_partial_83 : decode b_ST_partial 83 = .ok (.laload, 1) := by decide +kernel
theorem d_ST_partial_84 : decode b_ST_partial 84 = .ok (.lreturn, 1) := by decide +kernel
theorem d_ST_partial_85 : decode b_ST_partial 85 = .ok (.new 38, 3) := by decide +kernel
theorem d_ST_partial_88 : decode b_ST_partial 88 = .ok (.dup, 1) := by decide +kernel
theorem d_ST_partial_89 : decode b_ST_partial 89 = .ok (.ldc 153, 2) := by decide +kernel
theorem d_ST_partial_91 : decode b_ST_partial 91 = .ok (.invokespecial 42, 3) := by decide +kernel
theorem d_ST_partial_94 : decode b_ST_partial 94 = .ok (.athrow, 1) := by decide +kernel
theorem d_ST_bad_0 : decode b_ST_bad 0 = .ok (.aload_n 0, 1) := by decide +kernel
theorem d_ST_bad_1 : decode b_ST_bad 1 = .ok (.iload_n 1, 1) := by decide +kernel
theorem d_ST_bad_2 : decode b_ST_bad 2 = .ok (.invokevirtual 98, 3) := by decide +kernel
theorem d_ST_bad_5 : decode b_ST_bad 5 = .ok (.astore_n 2, 1) := by decide +kernel
theorem d_ST_bad_6 : decode b_ST_bad 6 = .ok (.aload_n 2, 1) := by decide +kernel
theorem d_ST_bad_7 : decode b_ST_bad 7 = .ok (.getfield 135, 3) := by decide +kernel
theorem d_ST_bad_10 : decode b_ST_bad 10 = .ok (.aload_n 0, 1) := by decide +kernel
theorem d_ST_bad_11 : decode b_ST_bad 11 = .ok (.aload_n 2, 1) := by decide +kernel
theorem d_ST_bad_12 : decode b_ST_bad 12 = .ok (.invokevirtual 155, 3) := by decide +kernel
theorem d_ST_bad_15 : decode b_ST_bad 15 = .ok (.iconst (-1), 1) := by decide +kernel
theorem d_ST_bad_16 : decode b_ST_bad 16 = .ok (.ixor, 1) := by decide +kernel
theorem d_ST_bad_17 : decode b_ST_bad 17 = .ok (.iand, 1) := by decide +kernel
theorem d_ST_bad_18 : decode b_ST_bad 18 = .ok (.ireturn, 1) := by decide +kernel
theorem d_ST_join_0 : decode b_ST_join 0 = .ok (.aload_n 0, 1) := by decide +kernel
theorem d_ST_join_1 : decode b_ST_join 1 = .ok (.iload_n 1, 1) := by decide +kernel
theorem d_ST_join_2 : decode b_ST_join 2 = .ok (.invokevirtual 98, 3) := by decide +kernel
theorem d_ST_join_5 : decode b_ST_join 5 = .ok (.astore_n 2, 1) := by decide +kernel
theorem d_ST_join_6 : decode b_ST_join 6 = .ok (.aload_n 2, 1) := by decide +kernel
theorem d_ST_join_7 : decode b_ST_join 7 = .ok (.invokestatic 106, 3) := by decide +kernel
theorem d_ST_join_10 : decode b_ST_join 10 = .ok (.aload_n 0, 1) := by decide +kernel
theorem d_ST_join_11 : decode b_ST_join 11 = .ok (.getfield 10, 3) := by decide +kernel
theorem d_ST_join_14 : decode b_ST_join 14 = .ok (.aload_n 2, 1) := by decide +kernel
theorem d_ST_join_15 : decode b_ST_join 15 = .ok (.getfield 159, 3) := by decide +kernel
theorem d_ST_join_18 : decode b_ST_join 18 = .ok (.invokevirtual 163, 3) := by decide +kernel
theorem d_ST_join_21 : decode b_ST_join 21 = .ok (.ifCond .ne 13, 3) := by decide +kernel
theorem d_ST_join_24 : decode b_ST_join 24 = .ok (.new 167, 3) := by decide +kernel
theorem d_ST_join_27 : decode b_ST_join 27 = .ok (.dup, 1) := by decide +kernel
theorem d_ST_join_28 : decode b_ST_join 28 = .ok (.ldc 169, 2) := by decide +kernel
theorem d_ST_join_30 : decode b_ST_join 30 = .ok (.invokespecial 171, 3) := by decide +kernel
theorem d_ST_join_33 : decode b_ST_join 33 = .ok (.athrow, 1) := by decide +kernel
theorem d_ST_join_34 : decode b_ST_join 34 = .ok (.aload_n 0, 1) := by decide +kernel
theorem d_ST_join_35 : decode b_ST_join 35 = .ok (.aload_n 2, 1) := by decide +kernel
theorem d_ST_join_36 : decode b_ST_join 36 = .ok (.invokevirtual 155, 3) := by decide +kernel
theorem d_ST_join_39 : decode b_ST_join 39 = .ok (.invokestatic 172, 3) := by decide +kernel
theorem d_ST_join_42 : decode b_ST_join 42 = .ok (.iconst 3, 1) := by decide +kernel
theorem d_ST_join_43 : decode b_ST_join 43 = .ok (.if_icmp .ge 13, 3) := by decide +kernel
theorem d_ST_join_46 : decode b_ST_join 46 = .ok (.new 83, 3) := by decide +kernel
theorem d_ST_join_49 : decode b_ST_join 49 = .ok (.dup, 1) := by decide +kernel
theorem d_ST_join_50 : decode b_ST_join 50 = .ok (.ldc 178, 2) := by decide +kernel
theorem d_ST_join_52 : decode b_ST_join 52 = .ok (.invokespecial 87, 3) := by decide +kernel
theorem d_ST_join_55 : decode b_ST_join 55 = .ok (.athrow, 1) := by decide +kernel
theorem d_ST_join_56 : decode b_ST_join 56 = .ok (.aload_n 2, 1) := by decide +kernel
theorem d_ST_join_57 : decode b_ST_join 57 = .ok (.aload_n 0, 1) := by decide +kernel
theorem d_ST_join_58 : decode b_ST_join 58 = .ok (.getfield 10, 3) := by decide +kernel
theorem d_ST_join_61 : decode b_ST_join 61 = .ok (.aload_n 2, 1) := by decide +kernel
theorem d_ST_join_62 : decode b_ST_join 62 = .ok (.getfield 159, 3) := by decide +kernel
theorem d_ST_join_65 : decode b_ST_join 65 = .ok (.invokevirtual 180, 3) := by decide +kernel
theorem d_ST_join_68 : decode b_ST_join 68 = .ok (.invokevirtual 184, 3) := by decide +kernel
theorem d_ST_join_71 : decode b_ST_join 71 = .ok (.aload_n 0, 1) := by decide +kernel
theorem d_ST_join_72 : decode b_ST_join 72 = .ok (.iload_n 1, 1) := by decide +kernel
theorem d_ST_join_73 : decode b_ST_join 73 = .ok (.invokevirtual 187, 3) := by decide +kernel
theorem d_ST_join_76 : decode b_ST_join 76 = .ok (.aload_n 2, 1) := by decide +kernel
theorem d_ST_join_77 : decode b_ST_join 77 = .ok (.getfield 190, 3) := by decide +kernel
theorem d_ST_join_80 : decode b_ST_join 80 = .ok (.lreturn, 1) := by decide +kernel
theorem d_ST_verify_0 : decode b_ST_verify 0 = .ok (.aload_n 0, 1) := by decide +kernel
theorem d_ST_verify_1 : decode b_ST_verify 1 = .ok (.invokevirtual 80, 3) := by decide +kernel
theorem d_ST_verify_4 : decode b_ST_verify 4 = .ok (.aload_n 0, 1) := by decide +kernel
theorem d_ST_verify_5 : decode b_ST_verify 5 = .ok (.getfield 10, 3) := by decide +kernel
theorem d_ST_verify_8 : decode b_ST_verify 8 = .ok (.lload_n 1, 1) := by decide +kernel
theorem d_ST_verify_9 : decode b_ST_verify 9 = .ok (.aload_n 0, 1) := by decide +kernel
theorem d_ST_verify_10 : decode b_ST_verify 10 = .ok (.getfield 10, 3) := by decide +kernel
theorem d_ST_verify_13 : decode b_ST_verify 13 = .ok (.aload_n 0, 1) := by decide +kernel
theorem d_ST_verify_14 : decode b_ST_verify 14 = .ok (.getfield 19, 3) := by decide +kernel
theorem d_ST_verify_17 : decode b_ST_verify 17 = .ok (.invokevirtual 88, 3) := by decide +kernel
theorem d_ST_verify_20 : decode b_ST_verify 20 = .ok (.invokevirtual 193, 3) := by decide +kernel
theorem d_ST_verify_23 : decode b_ST_verify 23 = .ok (.ireturn, 1) := by decide +kernel
theorem d_ST_refresh_0 : decode b_ST_refresh 0 = .ok (.iload_n 1, 1) := by decide +kernel
theorem d_ST_refresh_1 : decode b_ST_refresh 1 = .ok (.ifCond .lt 7, 3) := by decide +kernel
theorem d_ST_refresh_4 : decode b_ST_refresh 4 = .ok (.iload_n 2, 1) := by decide +kernel
theorem d_ST_refresh_5 : decode b_ST_refresh 5 = .ok (.ifCond .ge 13, 3) := by decide +kernel
theorem d_ST_refresh_8 : decode b_ST_refresh 8 = .ok (.new 38, 3) := by decide +kernel
theorem d_ST_refresh_11 : decode b_ST_refresh 11 = .ok (.dup, 1) := by decide +kernel
theorem d_ST_refresh_12 : decode b_ST_refresh 12 = .ok (.ldc 45, 2) := by decide +kernel
theorem d_ST_refresh_14 : decode b_ST_refresh 14 = .ok (.invokespecial 42, 3) := by decide +kernel
theorem d_ST_refresh_17 : decode b_ST_refresh 17 = .ok (.athrow, 1) := by decide +kernel
theorem d_ST_refresh_18 : decode b_ST_refresh 18 = .ok (.aload_n 0, 1) := by decide +kernel
theorem d_ST_refresh_19 : decode b_ST_refresh 19 = .ok (.invokevirtual 197, 3) := by decide +kernel
theorem d_ST_refresh_22 : decode b_ST_refresh 22 = .ok (.aload_n 0, 1) := by decide +kernel
theorem d_ST_refresh_23 : decode b_ST_refresh 23 = .ok (.getfield 10, 3) := by decide +kernel
theorem d_ST_refresh_26 : decode b_ST_refresh 26 = .ok (.iload_n 1, 1) := by decide +kernel
theorem d_ST_refresh_27 : decode b_ST_refresh 27 = .ok (.i2l, 1) := by decide +kernel
theorem d_ST_refresh_28 : decode b_ST_refresh 28 = .ok (.iload_n 2, 1) := by decide +kernel
theorem d_ST_refresh_29 : decode b_ST_refresh 29 = .ok (.i2l, 1) := by decide +kernel
theorem d_ST_refresh_30 : decode b_ST_refresh 30 = .ok (.invokevirtual 53, 3) := by decide +kernel
theorem d_ST_refresh_33 : decode b_ST_refresh 33 = .ok (.aload_n 0, 1) := by decide +kernel
theorem d_ST_refresh_34 : decode b_ST_refresh 34 = .ok (.getfield 10, 3) := by decide +kernel
theorem d_ST_refresh_37 : decode b_ST_refresh 37 = .ok (.dup, 1) := by decide +kernel
theorem d_ST_refresh_38 : decode b_ST_refresh 38 = .ok (.getfield 200, 3) := by decide +kernel
theorem d_ST_refresh_41 : decode b_ST_refresh 41 = .ok (.lconst 1, 1) := by decide +kernel
theorem d_ST_refresh_42 : decode b_ST_refresh 42 = .ok (.ladd, 1) := by decide +kernel
theorem d_ST_refresh_43 : decode b_ST_refresh 43 = .ok (.putfield 200, 3) := by decide +kernel
theorem d_ST_refresh_46 : decode b_ST_refresh 46 = .ok (.aload_n 0, 1) := by decide +kernel
theorem d_ST_refresh_47 : decode b_ST_refresh 47 = .ok (.invokevirtual 203, 3) := by decide +kernel
theorem d_ST_refresh_50 : decode b_ST_refresh 50 = .ok (.return_, 1) := by decide +kernel
theorem d_ST_suspend_0 : decode b_ST_suspend 0 = .ok (.iload_n 1, 1) := by decide +kernel
theorem d_ST_suspend_1 : decode b_ST_suspend 1 = .ok (.invokestatic 102, 3) := by decide +kernel
theorem d_ST_suspend_4 : decode b_ST_suspend 4 = .ok (.aload_n 0, 1) := by decide +kernel
theorem d_ST_suspend_5 : decode b_ST_suspend 5 = .ok (.invokevirtual 197, 3) := by decide +kernel
theorem d_ST_suspend_8 : decode b_ST_suspend 8 = .ok (.aload_n 0, 1) := by decide +kernel
theorem d_ST_suspend_9 : decode b_ST_suspend 9 = .ok (.getfield 64, 3) := by decide +kernel
theorem d_ST_suspend_12 : decode b_ST_suspend 12 = .ok (.iload_n 1, 1) := by decide +kernel
theorem d_ST_suspend_13 : decode b_ST_suspend 13 = .ok (.invokestatic 114, 3) := by decide +kernel
theorem d_ST_suspend_16 : decode b_ST_suspend 16 = .ok (.iload_n 2, 1) := by decide +kernel
theorem d_ST_suspend_17 : decode b_ST_suspend 17 = .ok (.if_icmp .ne 5, 3) := by decide +kernel
theorem d_ST_suspend_20 : decode b_ST_suspend 20 = .ok (.iconst 0, 1) := by decide +kernel
theorem d_ST_suspend_21 : decode b_ST_suspend 21 = .ok (.ireturn, 1) := by decide +kernel
theorem d_ST_suspend_22 : decode b_ST_suspend 22 = .ok (.aload_n 0, 1) := by decide +kernel
theorem d_ST_suspend_23 : decode b_ST_suspend 23 = .ok (.dup, 1) := by decide +kernel
theorem d_ST_suspend_24 : decode b_ST_suspend 24 = .ok (.getfield 64, 3) := by decide +kernel
theorem d_ST_suspend_27 : decode b_ST_suspend 27 = .ok (.iconst 1, 1) := by decide +kernel
theorem d_ST_suspend_28 : decode b_ST_suspend 28 = .ok (.iload_n 1, 1) := by decide +kernel
theorem d_ST_suspend_29 : decode b_ST_suspend 29 = .ok (.ishl, 1) := by decide +kernel
theorem d_ST_suspend_30 : decode b_ST_suspend 30 = .ok (.ixor, 1) := by decide +kernel
theorem d_ST_suspend_31 : decode b_ST_suspend 31 = .ok (.putfield 64, 3) := by decide +kernel
theorem d_ST_suspend_34 : decode b_ST_suspend 34 = .ok (.iconst 1, 1) := by decide +kernel
theorem d_ST_suspend_35 : decode b_ST_suspend 35 = .ok (.ireturn, 1) := by decide +kernel
theorem d_ST_parts_0 : decode b_ST_parts 0 = .ok (.iload_n 1, 1) := by decide +kernel
theorem d_ST_parts_1 : decode b_ST_parts 1 = .ok (.ifCond .lt 17, 3) := by decide +kernel
theorem d_ST_parts_4 : decode b_ST_parts 4 = .ok (.iload_n 1, 1) := by decide +kernel
theorem d_ST_parts_5 : decode b_ST_parts 5 = .ok (.bipush 64, 2) := by decide +kernel
theorem d_ST_parts_7 : decode b_ST_parts 7 = .ok (.if_icmp .ge 11, 3) := by decide +kernel
theorem d_ST_parts_10 : decode b_ST_parts 10 = .ok (.iload_n 1, 1) := by decide +kernel
theorem d_ST_parts_11 : decode b_ST_parts 11 = .ok (.invokestatic 172, 3) := by decide +kernel
theorem d_ST_parts_14 : decode b_ST_parts 14 = .ok (.iconst 3, 1) := by decide +kernel
theorem d_ST_parts_15 : decode b_ST_parts 15 = .ok (.if_icmp .eq 13, 3) := by decide +kernel
theorem d_ST_parts_18 : decode b_ST_parts 18 = .ok (.new 38, 3) := by decide +kernel
theorem d_ST_parts_21 : decode b_ST_parts 21 = .ok (.dup, 1) := by decide +kernel
theorem d_ST_parts_22 : decode b_ST_parts 22 = .ok (.ldc 206, 2) := by decide +kernel
theorem d_ST_parts_24 : decode b_ST_parts 24 = .ok (.invokespecial 42, 3) := by decide +kernel
theorem d_ST_parts_27 : decode b_ST_parts 27 = .ok (.athrow, 1) := by decide +kernel
theorem d_ST_parts_28 : decode b_ST_parts 28 = .ok (.aload_n 0, 1) := by decide +kernel
theorem d_ST_parts_29 : decode b_ST_parts 29 = .ok (.invokevirtual 197, 3) := by decide +kernel
theorem d_ST_parts_32 : decode b_ST_parts 32 = .ok (.aload_n 0, 1) := by decide +kernel
theorem d_ST_parts_33 : decode b_ST_parts 33 = .ok (.getfield 10, 3) := by decide +kernel
theorem d_ST_parts_36 : decode b_ST_parts 36 = .ok (.iload_n 1, 1) := by decide +kernel
theorem d_ST_parts_37 : decode b_ST_parts 37 = .ok (.invokevirtual 208, 3) := by decide +kernel
theorem d_ST_parts_40 : decode b_ST_parts 40 = .ok (.ireturn, 1) := by decide +kernel
theorem d_ST_told_0 : decode b_ST_told 0 = .ok (.aload_n 0, 1) := by decide +kernel
theorem d_ST_told_1 : decode b_ST_told 1 = .ok (.iload_n 1, 1) := by decide +kernel
theorem d_ST_told_2 : decode b_ST_told 2 = .ok (.invokevirtual 98, 3) := by decide +kernel
theorem d_ST_told_5 : decode b_ST_told 5 = .ok (.astore_n 3, 1) := by decide +kernel
theorem d_ST_told_6 : decode b_ST_told 6 = .ok (.iload_n 2, 1) := by decide +kernel
theorem d_ST_told_7 : decode b_ST_told 7 = .ok (.tableswitch 61 0 4 #[33, 39, 44, 50, 56], 33) := by decide +kernel
theorem d_ST_told_40 : decode b_ST_told 40 = .ok (.aload_n 3, 1) := by decide +kernel
theorem d_ST_told_41 : decode b_ST_told 41 = .ok (.getfield 211, 3) := by decide +kernel
theorem d_ST_told_44 : decode b_ST_told 44 = .ok (.i2l, 1) := by decide +kernel
theorem d_ST_told_45 : decode b_ST_told 45 = .ok (.lreturn, 1) := by decide +kernel
theorem d_ST_told_46 : decode b_ST_told 46 = .ok (.aload_n 3, 1) := by decide +kernel
theorem d_ST_told_47 : decode b_ST_told 47 = .ok (.getfield 159, 3) := by decide +kernel
theorem d_ST_told_50 : decode b_ST_told 50 = .ok (.lreturn, 1) := by decide +kernel
theorem d_ST_told_51 : decode b_ST_told 51 = .ok (.aload_n 3, 1) := by decide +kernel
theorem d_ST_told_52 : decode b_ST_told 52 = .ok (.getfield 135, 3) := by decide +kernel
theorem d_ST_told_55 : decode b_ST_told 55 = .ok (.i2l, 1) := by decide +kernel
theorem d_ST_told_56 : decode b_ST_told 56 = .ok (.lreturn, 1) := by decide +kernel
theorem d_ST_told_57 : decode b_ST_told 57 = .ok (.aload_n 3, 1) := by decide +kernel
theorem d_ST_told_58 : decode b_ST_told 58 = .ok (.getfield 126, 3) := by decide +kernel
theorem d_ST_told_61 : decode b_ST_told 61 = .ok (.i2l, 1) := by decide +kernel
theorem d_ST_told_62 : decode b_ST_told 62 = .ok (.lreturn, 1) := by decide +kernel
theorem d_ST_told_63 : decode b_ST_told 63 = .ok (.aload_n 3, 1) := by decide +kernel
theorem d_ST_told_64 : decode b_ST_told 64 = .ok (.getfield 190, 3) := by decide +kernel
theorem d_ST_told_67 : decode b_ST_told 67 = .ok (.lreturn, 1) := by decide +kernel
theorem d_ST_told_68 : decode b_ST_told 68 = .ok (.new 38, 3) := by decide +kernel
theorem d_ST_told_71 : decode b_ST_told 71 = .ok (.dup, 1) := by decide +kernel
theorem d_ST_told_72 : decode b_ST_told 72 = .ok (.ldc 214, 2) := by decide +kernel
theorem d_ST_told_74 : decode b_ST_told 74 = .ok (.invokespecial 42, 3) := by decide +kernel
theorem d_ST_told_77 : decode b_ST_told 77 = .ok (.athrow, 1) := by decide +kernel
theorem d_ST_book_0 : decode b_ST_book 0 = .ok (.iload_n 1, 1) := by decide +kernel
theorem d_ST_book_1 : decode b_ST_book 1 = .ok (.ifCond .ge 13, 3) := by decide +kernel
theorem d_ST_book_4 : decode b_ST_book 4 = .ok (.new 38, 3) := by decide +kernel
theorem d_ST_book_7 : decode b_ST_book 7 = .ok (.dup, 1) := by decide +kernel
theorem d_ST_book_8 : decode b_ST_book 8 = .ok (.ldc 216, 2) := by decide +kernel
theorem d_ST_book_10 : decode b_ST_book 10 = .ok (.invokespecial 42, 3) := by decide +kernel
theorem d_ST_book_13 : decode b_ST_book 13 = .ok (.athrow, 1) := by decide +kernel
theorem d_ST_book_14 : decode b_ST_book 14 = .ok (.iload_n 1, 1) := by decide +kernel
theorem d_ST_book_15 : decode b_ST_book 15 = .ok (.aload_n 0, 1) := by decide +kernel
theorem d_ST_book_16 : decode b_ST_book 16 = .ok (.getfield 61, 3) := by decide +kernel
theorem d_ST_book_19 : decode b_ST_book 19 = .ok (.if_icmp .ge 12, 3) := by decide +kernel
theorem d_ST_book_22 : decode b_ST_book 22 = .ok (.aload_n 0, 1) := by decide +kernel
theorem d_ST_book_23 : decode b_ST_book 23 = .ok (.getfield 30, 3) := by decide +kernel
theorem d_ST_book_26 : decode b_ST_book 26 = .ok (.iload_n 1, 1) := by decide +kernel
theorem d_ST_book_27 : decode b_ST_book 27 = .ok (.iaload, 1) := by decide +kernel
theorem d_ST_book_28 : decode b_ST_book 28 = .ok (.goto 4, 3) := by decide +kernel
theorem d_ST_book_31 : decode b_ST_book 31 = .ok (.iconst (-1), 1) := by decide +kernel
theorem d_ST_book_32 : decode b_ST_book 32 = .ok (.ireturn, 1) := by decide +kernel
theorem d_ST_state_0 : decode b_ST_state 0 = .ok (.iload_n 1, 1) := by decide +kernel
theorem d_ST_state_1 : decode b_ST_state 1 = .ok (.ifCond .lt 9, 3) := by decide +kernel
theorem d_ST_state_4 : decode b_ST_state 4 = .ok (.iload_n 1, 1) := by decide +kernel
theorem d_ST_state_5 : decode b_ST_state 5 = .ok (.bipush 10, 2) := by decide +kernel
theorem d_ST_state_7 : decode b_ST_state 7 = .ok (.if_icmp .le 13, 3) := by decide +kernel
theorem d_ST_state_10 : decode b_ST_state 10 = .ok (.new 38, 3) := by decide +kernel
theorem d_ST_state_13 : decode b_ST_state 13 = .ok (.dup, 1) := by decide +kernel
theorem d_ST_state_14 : decode b_ST_state 14 = .ok (.ldc 218, 2) := by decide +kernel
theorem d_ST_state_16 : decode b_ST_state 16 = .ok (.invokespecial 42, 3) := by decide +kernel
theorem d_ST_state_19 : decode b_ST_state 19 = .ok (.athrow, 1) := by decide +kernel
theorem d_ST_state_20 : decode b_ST_state 20 = .ok (.iload_n 1, 1) := by decide +kernel
theorem d_ST_state_21 : decode b_ST_state 21 = .ok (.iconst 4, 1) := by decide +kernel
theorem d_ST_state_22 : decode b_ST_state 22 = .ok (.if_icmp .ne 12, 3) := by decide +kernel
theorem d_ST_state_25 : decode b_ST_state 25 = .ok (.aload_n 0, 1) := by decide +kernel
theorem d_ST_state_26 : decode b_ST_state 26 = .ok (.getfield 19, 3) := by decide +kernel
theorem d_ST_state_29 : decode b_ST_state 29 = .ok (.invokevirtual 77, 3) := by decide +kernel
theorem d_ST_state_32 : decode b_ST_state 32 = .ok (.i2l, 1) := by decide +kernel
theorem d_ST_state_33 : decode b_ST_state 33 = .ok (.lreturn, 1) := by decide +kernel
theorem d_ST_state_34 : decode b_ST_state 34 = .ok (.aload_n 0, 1) := by decide +kernel
theorem d_ST_state_35 : decode b_ST_state 35 = .ok (.getfield 10, 3) := by decide +kernel
theorem d_ST_state_38 : decode b_ST_state 38 = .ok (.getfield 220, 3) := by decide +kernel
theorem d_ST_state_41 : decode b_ST_state 41 = .ok (.ifCond .ne 5, 3) := by decide +kernel
theorem d_ST_state_44 : decode b_ST_state 44 = .ok (.lconst 0, 1) := by decide +kernel
theorem d_ST_state_45 : decode b_ST_state 45 = .ok (.lreturn, 1) := by decide +kernel
theorem d_ST_state_46 : decode b_ST_state 46 = .ok (.iload_n 1, 1) := by decide +kernel
theorem d_ST_state_47 : decode b_ST_state 47 = .ok (.tableswitch 57 0 3 #[29, 37, 45, 51], 29) := by decide +kernel
theorem d_ST_state_76 : decode b_ST_state 76 = .ok (.aload_n 0, 1) := by decide +kernel
theorem d_ST_state_77 : decode b_ST_state 77 = .ok (.getfield 10, 3) := by decide +kernel
theorem d_ST_state_80 : decode b_ST_state 80 = .ok (.getfield 224, 3) := by decide +kernel
theorem d_ST_state_83 : decode b_ST_state 83 = .ok (.lreturn, 1) := by decide +kernel
theorem d_ST_state_84 : decode b_ST_state 84 = .ok (.aload_n 0, 1) := by decide +kernel
theorem d_ST_state_85 : decode b_ST_state 85 = .ok (.getfield 10, 3) := by decide +kernel
theorem d_ST_state_88 : decode b_ST_state 88 = .ok (.getfield 200, 3) := by decide +kernel
theorem d_ST_state_91 : decode b_ST_state 91 = .ok (.lreturn, 1) := by decide +kernel
theorem d_ST_state_92 : decode b_ST_state 92 = .ok (.aload_n 0, 1) := by decide +kernel
theorem d_ST_state_93 : decode b_ST_state 93 = .ok (.getfield 57, 3) := by decide +kernel
theorem d_ST_state_96 : decode b_ST_state 96 = .ok (.i2l, 1) := by decide +kernel
theorem d_ST_state_97 : decode b_ST_state 97 = .ok (.lreturn, 1) := by decide +kernel
theorem d_ST_state_98 : decode b_ST_state 98 = .ok (.aload_n 0, 1) := by decide +kernel
theorem d_ST_state_99 : decode b_ST_state 99 = .ok (.getfield 64, 3) := by decide +kernel
theorem d_ST_state_102 : decode b_ST_state 102 = .ok (.i2l, 1) := by decide +kernel
theorem d_ST_state_103 : decode b_ST_state 103 = .ok (.lreturn, 1) := by decide +kernel
theorem d_ST_state_104 : decode b_ST_state 104 = .ok (.aload_n 0, 1) := by decide +kernel
theorem d_ST_state_105 : decode b_ST_state 105 = .ok (.getfield 10, 3) := by decide +kernel
theorem d_ST_state_108 : decode b_ST_state 108 = .ok (.getfield 227, 3) := by decide +kernel
theorem d_ST_state_111 : decode b_ST_state 111 = .ok (.iload_n 1, 1) := by decide +kernel
theorem d_ST_state_112 : decode b_ST_state 112 = .ok (.iconst 5, 1) := by decide +kernel
theorem d_ST_state_113 : decode b_ST_state 113 = .ok (.isub, 1) := by decide +kernel
theorem d_ST_state_114 : decode b_ST_state 114 = .ok (.laload, 1) := by decide +kernel
theorem d_ST_state_115 : decode b_ST_state 115 = .ok (.lreturn, 1) := by decide +kernel
theorem d_ST_requireKey_0 : decode b_ST_requireKey 0 = .ok (.aload_n 0, 1) := by decide +kernel
theorem d_ST_requireKey_1 : decode b_ST_requireKey 1 = .ok (.getfield 10, 3) := by decide +kernel
theorem d_ST_requireKey_4 : decode b_ST_requireKey 4 = .ok (.getfield 220, 3) := by decide +kernel
theorem d_ST_requireKey_7 : decode b_ST_requireKey 7 = .ok (.ifCond .ne 13, 3) := by decide +kernel
theorem d_ST_requireKey_10 : decode b_ST_requireKey 10 = .ok (.new 83, 3) := by decide +kernel
theorem d_ST_requireKey_13 : decode b_ST_requireKey 13 = .ok (.dup, 1) := by decide +kernel
theorem d_ST_requireKey_14 : decode b_ST_requireKey 14 = .ok (.ldc 230, 2) := by decide +kernel
theorem d_ST_requireKey_16 : decode b_ST_requireKey 16 = .ok (.invokespecial 87, 3) := by decide +kernel
theorem d_ST_requireKey_19 : decode b_ST_requireKey 19 = .ok (.athrow, 1) := by decide +kernel
theorem d_ST_requireKey_20 : decode b_ST_requireKey 20 = .ok (.return_, 1) := by decide +kernel
theorem d_ST_requireDocument_0 : decode b_ST_requireDocument 0 = .ok (.aload_n 0, 1) := by decide +kernel
theorem d_ST_requireDocument_1 : decode b_ST_requireDocument 1 = .ok (.invokevirtual 197, 3) := by decide +kernel
theorem d_ST_requireDocument_4 : decode b_ST_requireDocument 4 = .ok (.aload_n 0, 1) := by decide +kernel
theorem d_ST_requireDocument_5 : decode b_ST_requireDocument 5 = .ok (.getfield 19, 3) := by decide +kernel
theorem d_ST_requireDocument_8 : decode b_ST_requireDocument 8 = .ok (.invokevirtual 77, 3) := by decide +kernel
theorem d_ST_requireDocument_11 : decode b_ST_requireDocument 11 = .ok (.ifCond .ne 13, 3) := by decide +kernel
theorem d_ST_requireDocument_14 : decode b_ST_requireDocument 14 = .ok (.new 83, 3) := by decide +kernel
theorem d_ST_requireDocument_17 : decode b_ST_requireDocument 17 = .ok (.dup, 1) := by decide +kernel
theorem d_ST_requireDocument_18 : decode b_ST_requireDocument 18 = .ok (.ldc 232, 2) := by decide +kernel
theorem d_ST_requireDocument_20 : decode b_ST_requireDocument 20 = .ok (.invokespecial 87, 3) := by decide +kernel
theorem d_ST_requireDocument_23 : decode b_ST_requireDocument 23 = .ok (.athrow, 1) := by decide +kernel
theorem d_ST_requireDocument_24 : decode b_ST_requireDocument 24 = .ok (.return_, 1) := by decide +kernel
theorem d_ST_motionAt_0 : decode b_ST_motionAt 0 = .ok (.iload_n 1, 1) := by decide +kernel
theorem d_ST_motionAt_1 : decode b_ST_motionAt 1 = .ok (.ifCond .lt 11, 3) := by decide +kernel
theorem d_ST_motionAt_4 : decode b_ST_motionAt 4 = .ok (.iload_n 1, 1) := by decide +kernel
theorem d_ST_motionAt_5 : decode b_ST_motionAt 5 = .ok (.aload_n 0, 1) := by decide +kernel
theorem d_ST_motionAt_6 : decode b_ST_motionAt 6 = .ok (.getfield 57, 3) := by decide +kernel
theorem d_ST_motionAt_9 : decode b_ST_motionAt 9 = .ok (.if_icmp .lt 13, 3) := by decide +kernel
theorem d_ST_motionAt_12 : decode b_ST_motionAt 12 = .ok (.new 138, 3) := by decide +kernel
theorem d_ST_motionAt_15 : decode b_ST_motionAt 15 = .ok (.dup, 1) := by decide +kernel
theorem d_ST_motionAt_16 : decode b_ST_motionAt 16 = .ok (.ldc 234, 2) := by decide +kernel
theorem d_ST_motionAt_18 : decode b_ST_motionAt 18 = .ok (.invokespecial 142, 3) := by decide +kernel
theorem d_ST_motionAt_21 : decode b_ST_motionAt 21 = .ok (.athrow, 1) := by decide +kernel
theorem d_ST_motionAt_22 : decode b_ST_motionAt 22 = .ok (.aload_n 0, 1) := by decide +kernel
theorem d_ST_motionAt_23 : decode b_ST_motionAt 23 = .ok (.getfield 25, 3) := by decide +kernel
theorem d_ST_motionAt_26 : decode b_ST_motionAt 26 = .ok (.iload_n 1, 1) := by decide +kernel
theorem d_ST_motionAt_27 : decode b_ST_motionAt 27 = .ok (.aaload, 1) := by decide +kernel
theorem d_ST_motionAt_28 : decode b_ST_motionAt 28 = .ok (.areturn, 1) := by decide +kernel
theorem d_ST_requireTrustee_0 : decode b_ST_requireTrustee 0 = .ok (.iload_n 0, 1) := by decide +kernel
theorem d_ST_requireTrustee_1 : decode b_ST_requireTrustee 1 = .ok (.ifCond .lt 9, 3) := by decide +kernel
theorem d_ST_requireTrustee_4 : decode b_ST_requireTrustee 4 = .ok (.iload_n 0, 1) := by decide +kernel
theorem d_ST_requireTrustee_5 : decode b_ST_requireTrustee 5 = .ok (.bipush 6, 2) := by decide +kernel
theorem d_ST_requireTrustee_7 : decode b_ST_requireTrustee 7 = .ok (.if_icmp .lt 13, 3) := by decide +kernel
theorem d_ST_requireTrustee_10 : decode b_ST_requireTrustee 10 = .ok (.new 138, 3) := by decide +kernel
theorem d_ST_requireTrustee_13 : decode b_ST_requireTrustee 13 = .ok (.dup, 1) := by decide +kernel
theorem d_ST_requireTrustee_14 : decode b_ST_requireTrustee 14 = .ok (.ldc 236, 2) := by decide +kernel
theorem d_ST_requireTrustee_16 : decode b_ST_requireTrustee 16 = .ok (.invokespecial 142, 3) := by decide +kernel
theorem d_ST_requireTrustee_19 : decode b_ST_requireTrustee 19 = .ok (.athrow, 1) := by decide +kernel
theorem d_ST_requireTrustee_20 : decode b_ST_requireTrustee 20 = .ok (.return_, 1) := by decide +kernel
theorem d_ST_requireOpen_0 : decode b_ST_requireOpen 0 = .ok (.aload_n 0, 1) := by decide +kernel
theorem d_ST_requireOpen_1 : decode b_ST_requireOpen 1 = .ok (.getfield 211, 3) := by decide +kernel
theorem d_ST_requireOpen_4 : decode b_ST_requireOpen 4 = .ok (.ifCond .eq 13, 3) := by decide +kernel
theorem d_ST_requireOpen_7 : decode b_ST_requireOpen 7 = .ok (.new 83, 3) := by decide +kernel
theorem d_ST_requireOpen_10 : decode b_ST_requireOpen 10 = .ok (.dup, 1) := by decide +kernel
theorem d_ST_requireOpen_11 : decode b_ST_requireOpen 11 = .ok (.ldc 238, 2) := by decide +kernel
theorem d_ST_requireOpen_13 : decode b_ST_requireOpen 13 = .ok (.invokespecial 87, 3) := by decide +kernel
theorem d_ST_requireOpen_16 : decode b_ST_requireOpen 16 = .ok (.athrow, 1) := by decide +kernel
theorem d_ST_requireOpen_17 : decode b_ST_requireOpen 17 = .ok (.return_, 1) := by decide +kernel
theorem d_ST_requireNoVoice_0 : decode b_ST_requireNoVoice 0 = .ok (.aload_n 0, 1) := by decide +kernel
theorem d_ST_requireNoVoice_1 : decode b_ST_requireNoVoice 1 = .ok (.getfield 135, 3) := by decide +kernel
theorem d_ST_requireNoVoice_4 : decode b_ST_requireNoVoice 4 = .ok (.aload_n 0, 1) := by decide +kernel
theorem d_ST_requireNoVoice_5 : decode b_ST_requireNoVoice 5 = .ok (.getfield 126, 3) := by decide +kernel
theorem d_ST_requireNoVoice_8 : decode b_ST_requireNoVoice 8 = .ok (.ior, 1) := by decide +kernel
theorem d_ST_requireNoVoice_9 : decode b_ST_requireNoVoice 9 = .ok (.iload_n 1, 1) := by decide +kernel
theorem d_ST_requireNoVoice_10 : decode b_ST_requireNoVoice 10 = .ok (.invokestatic 114, 3) := by decide +kernel
theorem d_ST_requireNoVoice_13 : decode b_ST_requireNoVoice 13 = .ok (.ifCond .eq 13, 3) := by decide +kernel
theorem d_ST_requireNoVoice_16 : decode b_ST_requireNoVoice 16 = .ok (.new 83, 3) := by decide +kernel
theorem d_ST_requireNoVoice_19 : decode b_ST_requireNoVoice 19 = .ok (.dup, 1) := by decide +kernel
theorem d_ST_requireNoVoice_20 : decode b_ST_requireNoVoice 20 = .ok (.ldc 240, 2) := by decide +kernel
theorem d_ST_requireNoVoice_22 : decode b_ST_requireNoVoice 22 = .ok (.invokespecial 87, 3) := by decide +kernel
theorem d_ST_requireNoVoice_25 : decode b_ST_requireNoVoice 25 = .ok (.athrow, 1) := by decide +kernel
theorem d_ST_requireNoVoice_26 : decode b_ST_requireNoVoice 26 = .ok (.return_, 1) := by decide +kernel
theorem d_ST_goodPartials_0 : decode b_ST_goodPartials 0 = .ok (.iconst 0, 1) := by decide +kernel
theorem d_ST_goodPartials_1 : decode b_ST_goodPartials 1 = .ok (.istore_n 2, 1) := by decide +kernel
theorem d_ST_goodPartials_2 : decode b_ST_goodPartials 2 = .ok (.iconst 0, 1) := by decide +kernel
theorem d_ST_goodPartials_3 : decode b_ST_goodPartials 3 = .ok (.istore_n 3, 1) := by decide +kernel
theorem d_ST_goodPartials_4 : decode b_ST_goodPartials 4 = .ok (.iload_n 3, 1) := by decide +kernel
theorem d_ST_goodPartials_5 : decode b_ST_goodPartials 5 = .ok (.bipush 6, 2) := by decide +kernel
theorem d_ST_goodPartials_7 : decode b_ST_goodPartials 7 = .ok (.if_icmp .ge 38, 3) := by decide +kernel
theorem d_ST_goodPartials_10 : decode b_ST_goodPartials 10 = .ok (.aload_n 1, 1) := by decide +kernel
theorem d_ST_goodPartials_11 : decode b_ST_goodPartials 11 = .ok (.getfield 135, 3) := by decide +kernel
theorem d_ST_goodPartials_14 : decode b_ST_goodPartials 14 = .ok (.iload_n 3, 1) := by decide +kernel
theorem d_ST_goodPartials_15 : decode b_ST_goodPartials 15 = .ok (.invokestatic 114, 3) := by decide +kernel
theorem d_ST_goodPartials_18 : decode b_ST_goodPartials 18 = .ok (.ifCond .eq 21, 3) := by decide +kernel
theorem d_ST_goodPartials_21 : decode b_ST_goodPartials 21 = .ok (.aload_n 0, 1) := by decide +kernel
theorem d_ST_goodPartials_22 : decode b_ST_goodPartials 22 = .ok (.getfield 10, 3) := by decide +kernel
theorem d_ST_goodPartials_25 : decode b_ST_goodPartials 25 = .ok (.aload_n 1, 1) := by decide +kernel
theorem d_ST_goodPartials_26 : decode b_ST_goodPartials 26 = .ok (.iload_n 3, 1) := by decide +kernel
theorem d_ST_goodPartials_27 : decode b_ST_goodPartials 27 = .ok (.invokevirtual 242, 3) := by decide +kernel
theorem d_ST_goodPartials_30 : decode b_ST_goodPartials 30 = .ok (.ifCond .eq 9, 3) := by decide +kernel
theorem d_ST_goodPartials_33 : decode b_ST_goodPartials 33 = .ok (.iload_n 2, 1) := by decide +kernel
theorem d_ST_goodPartials_34 : decode b_ST_goodPartials 34 = .ok (.iconst 1, 1) := by decide +kernel
theorem d_ST_goodPartials_35 : decode b_ST_goodPartials 35 = .ok (.iload_n 3, 1) := by decide +kernel
theorem d_ST_goodPartials_36 : decode b_ST_goodPartials 36 = .ok (.ishl, 1) := by decide +kernel
theorem d_ST_goodPartials_37 : decode b_ST_goodPartials 37 = .ok (.ior, 1) := by decide +kernel
theorem d_ST_goodPartials_38 : decode b_ST_goodPartials 38 = .ok (.istore_n 2, 1) := by decide +kernel
theorem d_ST_goodPartials_39 : decode b_ST_goodPartials 39 = .ok (.iinc 3 1, 3) := by decide +kernel
theorem d_ST_goodPartials_42 : decode b_ST_goodPartials 42 = .ok (.goto (-38), 3) := by decide +kernel
theorem d_ST_goodPartials_45 : decode b_ST_goodPartials 45 = .ok (.iload_n 2, 1) := by decide +kernel
theorem d_ST_goodPartials_46 : decode b_ST_goodPartials 46 = .ok (.ireturn, 1) := by decide +kernel
theorem d_ST_dropOpenPartials_0 : decode b_ST_dropOpenPartials 0 = .ok (.iconst 0, 1) := by decide +kernel
theorem d_ST_dropOpenPartials_1 : decode b_ST_dropOpenPartials 1 = .ok (.istore_n 1, 1) := by decide +kernel
theorem d_ST_dropOpenPartials_2 : decode b_ST_dropOpenPartials 2 = .ok (.iload_n 1, 1) := by decide +kernel
theorem d_ST_dropOpenPartials_3 : decode b_ST_dropOpenPartials 3 = .ok (.aload_n 0, 1) := by decide +kernel
theorem d_ST_dropOpenPartials_4 : decode b_ST_dropOpenPartials 4 = .ok (.getfield 57, 3) := by decide +kernel
theorem d_ST_dropOpenPartials_7 : decode b_ST_dropOpenPartials 7 = .ok (.if_icmp .ge 30, 3) := by decide +kernel
theorem d_ST_dropOpenPartials_10 : decode b_ST_dropOpenPartials 10 = .ok (.aload_n 0, 1) := by decide +kernel
theorem d_ST_dropOpenPartials_11 : decode b_ST_dropOpenPartials 11 = .ok (.getfield 25, 3) := by decide +kernel
theorem d_ST_dropOpenPartials_14 : decode b_ST_dropOpenPartials 14 = .ok (.iload_n 1, 1) := by decide +kernel
theorem d_ST_dropOpenPartials_15 : decode b_ST_dropOpenPartials 15 = .ok (.aaload, 1) := by decide +kernel
theorem d_ST_dropOpenPartials_16 : decode b_ST_dropOpenPartials 16 = .ok (.getfield 211, 3) := by decide +kernel
theorem d_ST_dropOpenPartials_19 : decode b_ST_dropOpenPartials 19 = .ok (.ifCond .ne 12, 3) := by decide +kernel
theorem d_ST_dropOpenPartials_22 : decode b_ST_dropOpenPartials 22 = .ok (.aload_n 0, 1) := by decide +kernel
theorem d_ST_dropOpenPartials_23 : decode b_ST_dropOpenPartials 23 = .ok (.getfield 25, 3) := by decide +kernel
theorem d_ST_dropOpenPartials_26 : decode b_ST_dropOpenPartials 26 = .ok (.iload_n 1, 1) := by decide +kernel
theorem d_ST_dropOpenPartials_27 : decode b_ST_dropOpenPartials 27 = .ok (.aaload, 1) := by decide +kernel
theorem d_ST_dropOpenPartials_28 : decode b_ST_dropOpenPartials 28 = .ok (.invokevirtual 246, 3) := by decide +kernel
theorem d_ST_dropOpenPartials_31 : decode b_ST_dropOpenPartials 31 = .ok (.iinc 1 1, 3) := by decide +kernel
theorem d_ST_dropOpenPartials_34 : decode b_ST_dropOpenPartials 34 = .ok (.goto (-32), 3) := by decide +kernel
theorem d_ST_dropOpenPartials_37 : decode b_ST_dropOpenPartials 37 = .ok (.return_, 1) := by decide +kernel
theorem d_ST_enter_0 : decode b_ST_enter 0 = .ok (.aload_n 0, 1) := by decide +kernel
theorem d_ST_enter_1 : decode b_ST_enter 1 = .ok (.getfield 61, 3) := by decide +kernel
theorem d_ST_enter_4 : decode b_ST_enter 4 = .ok (.bipush 12, 2) := by decide +kernel
theorem d_ST_enter_6 : decode b_ST_enter 6 = .ok (.if_icmp .ge 23, 3) := by decide +kernel
theorem d_ST_enter_9 : decode b_ST_enter 9 = .ok (.aload_n 0, 1) := by decide +kernel
theorem d_ST_enter_10 : decode b_ST_enter 10 = .ok (.getfield 30, 3) := by decide +kernel
theorem d_ST_enter_13 : decode b_ST_enter 13 = .ok (.aload_n 0, 1) := by decide +kernel
theorem d_ST_enter_14 : decode b_ST_enter 14 = .ok (.getfield 61, 3) := by decide +kernel
theorem d_ST_enter_17 : decode b_ST_enter 17 = .ok (.iload_n 1, 1) := by decide +kernel
theorem d_ST_enter_18 : decode b_ST_enter 18 = .ok (.iastore, 1) := by decide +kernel
theorem d_ST_enter_19 : decode b_ST_enter 19 = .ok (.aload_n 0, 1) := by decide +kernel
theorem d_ST_enter_20 : decode b_ST_enter 20 = .ok (.dup, 1) := by decide +kernel
theorem d_ST_enter_21 : decode b_ST_enter 21 = .ok (.getfield 61, 3) := by decide +kernel
theorem d_ST_enter_24 : decode b_ST_enter 24 = .ok (.iconst 1, 1) := by decide +kernel
theorem d_ST_enter_25 : decode b_ST_enter 25 = .ok (.iadd, 1) := by decide +kernel
theorem d_ST_enter_26 : decode b_ST_enter 26 = .ok (.putfield 61, 3) := by decide +kernel
theorem d_ST_enter_29 : decode b_ST_enter 29 = .ok (.return_, 1) := by decide +kernel
theorem d_ST_isIn_0 : decode b_ST_isIn 0 = .ok (.iload_n 0, 1) := by decide +kernel
theorem d_ST_isIn_1 : decode b_ST_isIn 1 = .ok (.iload_n 1, 1) := by decide +kernel
theorem d_ST_isIn_2 : decode b_ST_isIn 2 = .ok (.iushr, 1) := by decide +kernel
theorem d_ST_isIn_3 : decode b_ST_isIn 3 = .ok (.iconst 1, 1) := by decide +kernel
theorem d_ST_isIn_4 : decode b_ST_isIn 4 = .ok (.iand, 1) := by decide +kernel
theorem d_ST_isIn_5 : decode b_ST_isIn 5 = .ok (.iconst 1, 1) := by decide +kernel
theorem d_ST_isIn_6 : decode b_ST_isIn 6 = .ok (.if_icmp .ne 7, 3) := by decide +kernel
theorem d_ST_isIn_9 : decode b_ST_isIn 9 = .ok (.iconst 1, 1) := by decide +kernel
theorem d_ST_isIn_10 : decode b_ST_isIn 10 = .ok (.goto 4, 3) := by decide +kernel
theorem d_ST_isIn_13 : decode b_ST_isIn 13 = .ok (.iconst 0, 1) := by decide +kernel
theorem d_ST_isIn_14 : decode b_ST_isIn 14 = .ok (.ireturn, 1) := by decide +kernel
theorem d_ST_isSafePrime_0 : decode b_ST_isSafePrime 0 = .ok (.iload_n 0, 1) := by decide +kernel
theorem d_ST_isSafePrime_1 : decode b_ST_isSafePrime 1 = .ok (.bipush 20, 2) := by decide +kernel
theorem d_ST_isSafePrime_3 : decode b_ST_isSafePrime 3 = .ok (.if_icmp .lt 32, 3) := by decide +kernel
theorem d_ST_isSafePrime_6 : decode b_ST_isSafePrime 6 = .ok (.iload_n 0, 1) := by decide +kernel
theorem d_ST_isSafePrime_7 : decode b_ST_isSafePrime 7 = .ok (.sipush 32767, 3) := by decide +kernel
theorem d_ST_isSafePrime_10 : decode b_ST_isSafePrime 10 = .ok (.if_icmp .gt 25, 3) := by decide +kernel
theorem d_ST_isSafePrime_13 : decode b_ST_isSafePrime 13 = .ok (.iload_n 0, 1) := by decide +kernel
theorem d_ST_isSafePrime_14 : decode b_ST_isSafePrime 14 = .ok (.invokestatic 249, 3) := by decide +kernel
theorem d_ST_isSafePrime_17 : decode b_ST_isSafePrime 17 = .ok (.ifCond .eq 18, 3) := by decide +kernel
theorem d_ST_isSafePrime_20 : decode b_ST_isSafePrime 20 = .ok (.iload_n 0, 1) := by decide +kernel
theorem d_ST_isSafePrime_21 : decode b_ST_isSafePrime 21 = .ok (.iconst 1, 1) := by decide +kernel
theorem d_ST_isSafePrime_22 : decode b_ST_isSafePrime 22 = .ok (.isub, 1) := by decide +kernel
theorem d_ST_isSafePrime_23 : decode b_ST_isSafePrime 23 = .ok (.iconst 2, 1) := by decide +kernel
theorem d_ST_isSafePrime_24 : decode b_ST_isSafePrime 24 = .ok (.idiv, 1) := by decide +kernel
theorem d_ST_isSafePrime_25 : decode b_ST_isSafePrime 25 = .ok (.invokestatic 249, 3) := by decide +kernel
theorem d_ST_isSafePrime_28 : decode b_ST_isSafePrime 28 = .ok (.ifCond .eq 7, 3) := by decide +kernel
theorem d_ST_isSafePrime_31 : decode b_ST_isSafePrime 31 = .ok (.iconst 1, 1) := by decide +kernel
theorem d_ST_isSafePrime_32 : decode b_ST_isSafePrime 32 = .ok (.goto 4, 3) := by decide +kernel
theorem d_ST_isSafePrime_35 : decode b_ST_isSafePrime 35 = .ok (.iconst 0, 1) := by decide +kernel
theorem d_ST_isSafePrime_36 : decode b_ST_isSafePrime 36 = .ok (.ireturn, 1) := by decide +kernel
theorem d_ST_isPrime_0 : decode b_ST_isPrime 0 = .ok (.iconst 2, 1) := by decide +kernel
theorem d_ST_isPrime_1 : decode b_ST_isPrime 1 = .ok (.istore_n 1, 1) := by decide +kernel
theorem d_ST_isPrime_2 : decode b_ST_isPrime 2 = .ok (.iload_n 1, 1) := by decide +kernel
theorem d_ST_isPrime_3 : decode b_ST_isPrime 3 = .ok (.iload_n 1, 1) := by decide +kernel
theorem d_ST_isPrime_4 : decode b_ST_isPrime 4 = .ok (.imul, 1) := by decide +kernel
theorem d_ST_isPrime_5 : decode b_ST_isPrime 5 = .ok (.iload_n 0, 1) := by decide +kernel
theorem d_ST_isPrime_6 : decode b_ST_isPrime 6 = .ok (.if_icmp .gt 17, 3) := by decide +kernel
theorem d_ST_isPrime_9 : decode b_ST_isPrime 9 = .ok (.iload_n 0, 1) := by decide +kernel
theorem d_ST_isPrime_10 : decode b_ST_isPrime 10 = .ok (.iload_n 1, 1) := by decide +kernel
theorem d_ST_isPrime_11 : decode b_ST_isPrime 11 = .ok (.irem, 1) := by decide +kernel
theorem d_ST_isPrime_12 : decode b_ST_isPrime 12 = .ok (.ifCond .ne 5, 3) := by decide +kernel
theorem d_ST_isPrime_15 : decode b_ST_isPrime 15 = .ok (.iconst 0, 1) := by decide +kernel
theorem d_ST_isPrime_16 : decode b_ST_isPrime 16 = .ok (.ireturn, 1) := by decide +kernel
theorem d_ST_isPrime_17 : decode b_ST_isPrime 17 = .ok (.iinc 1 1, 3) := by decide +kernel
theorem d_ST_isPrime_20 : decode b_ST_isPrime 20 = .ok (.goto (-18), 3) := by decide +kernel
theorem d_ST_isPrime_23 : decode b_ST_isPrime 23 = .ok (.iload_n 0, 1) := by decide +kernel
theorem d_ST_isPrime_24 : decode b_ST_isPrime 24 = .ok (.iconst 2, 1) := by decide +kernel
theorem d_ST_isPrime_25 : decode b_ST_isPrime 25 = .ok (.if_icmp .lt 7, 3) := by decide +kernel
theorem d_ST_isPrime_28 : decode b_ST_isPrime 28 = .ok (.iconst 1, 1) := by decide +kernel
theorem d_ST_isPrime_29 : decode b_ST_isPrime 29 = .ok (.goto 4, 3) := by decide +kernel
theorem d_ST_isPrime_32 : decode b_ST_isPrime 32 = .ok (.iconst 0, 1) := by decide +kernel
theorem d_ST_isPrime_33 : decode b_ST_isPrime 33 = .ok (.ireturn, 1) := by decide +kernel
theorem d_ST_mixIn_0 : decode b_ST_mixIn 0 = .ok (.lload_n 0, 1) := by decide +kernel
theorem d_ST_mixIn_1 : decode b_ST_mixIn 1 = .ok (.lload_n 2, 1) := by decide +kernel
theorem d_ST_mixIn_2 : decode b_ST_mixIn 2 = .ok (.lxor, 1) := by decide +kernel
theorem d_ST_mixIn_3 : decode b_ST_mixIn 3 = .ok (.ldc2_w 252, 3) := by decide +kernel
theorem d_ST_mixIn_6 : decode b_ST_mixIn 6 = .ok (.lmul, 1) := by decide +kernel
theorem d_ST_mixIn_7 : decode b_ST_mixIn 7 = .ok (.ldc2_w 254, 3) := by decide +kernel
theorem d_ST_mixIn_10 : decode b_ST_mixIn 10 = .ok (.ladd, 1) := by decide +kernel
theorem d_ST_mixIn_11 : decode b_ST_mixIn 11 = .ok (.lreturn, 1) := by decide +kernel
theorem d_ST_mixOf_0 : decode b_ST_mixOf 0 = .ok (.lload_n 0, 1) := by decide +kernel
theorem d_ST_mixOf_1 : decode b_ST_mixOf 1 = .ok (.bipush 33, 2) := by decide +kernel
theorem d_ST_mixOf_3 : decode b_ST_mixOf 3 = .ok (.lushr, 1) := by decide +kernel
theorem d_ST_mixOf_4 : decode b_ST_mixOf 4 = .ok (.lreturn, 1) := by decide +kernel
theorem d_ST_rest_0 : decode b_ST_rest 0 = .ok (.lload_n 2, 1) := by decide +kernel
theorem d_ST_rest_1 : decode b_ST_rest 1 = .ok (.lconst 0, 1) := by decide +kernel
theorem d_ST_rest_2 : decode b_ST_rest 2 = .ok (.lcmp, 1) := by decide +kernel
theorem d_ST_rest_3 : decode b_ST_rest 3 = .ok (.ifCond .gt 5, 3) := by decide +kernel
theorem d_ST_rest_6 : decode b_ST_rest 6 = .ok (.lconst 0, 1) := by decide +kernel
theorem d_ST_rest_7 : decode b_ST_rest 7 = .ok (.lreturn, 1) := by decide +kernel
theorem d_ST_rest_8 : decode b_ST_rest 8 = .ok (.lload_n 0, 1) := by decide +kernel
theorem d_ST_rest_9 : decode b_ST_rest 9 = .ok (.lload_n 2, 1) := by decide +kernel
theorem d_ST_rest_10 : decode b_ST_rest 10 = .ok (.lrem, 1) := by decide +kernel
theorem d_ST_rest_11 : decode b_ST_rest 11 = .ok (.lstore 4, 2) := by decide +kernel
theorem d_ST_rest_13 : decode b_ST_rest 13 = .ok (.lload 4, 2) := by decide +kernel
theorem d_ST_rest_15 : decode b_ST_rest 15 = .ok (.lconst 0, 1) := by decide +kernel
theorem d_ST_rest_16 : decode b_ST_rest 16 = .ok (.lcmp, 1) := by decide +kernel
theorem d_ST_rest_17 : decode b_ST_rest 17 = .ok (.ifCond .ge 10, 3) := by decide +kernel
theorem d_ST_rest_20 : decode b_ST_rest 20 = .ok (.lload 4, 2) := by decide +kernel
theorem d_ST_rest_22 : decode b_ST_rest 22 = .ok (.lload_n 2, 1) := by decide +kernel
theorem d_ST_rest_23 : decode b_ST_rest 23 = .ok (.ladd, 1) := by decide +kernel
theorem d_ST_rest_24 : decode b_ST_rest 24 = .ok (.goto 5, 3) := by decide +kernel
theorem d_ST_rest_27 : decode b_ST_rest 27 = .ok (.lload 4, 2) := by decide +kernel
theorem d_ST_rest_29 : decode b_ST_rest 29 = .ok (.lreturn, 1) := by decide +kernel
theorem d_ST_powerModulo_0 : decode b_ST_powerModulo 0 = .ok (.lconst 1, 1) := by decide +kernel
theorem d_ST_powerModulo_1 : decode b_ST_powerModulo 1 = .ok (.lload 4, 2) := by decide +kernel
theorem d_ST_powerModulo_3 : decode b_ST_powerModulo 3 = .ok (.invokestatic 256, 3) := by decide +kernel
theorem d_ST_powerModulo_6 : decode b_ST_powerModulo 6 = .ok (.lstore 6, 2) := by decide +kernel
theorem d_ST_powerModulo_8 : decode b_ST_powerModulo 8 = .ok (.lload_n 0, 1) := by decide +kernel
theorem d_ST_powerModulo_9 : decode b_ST_powerModulo 9 = .ok (.lload 4, 2) := by decide +kernel
theorem d_ST_powerModulo_11 : decode b_ST_powerModulo 11 = .ok (.invokestatic 256, 3) := by decide +kernel
theorem d_ST_powerModulo_14 : decode b_ST_powerModulo 14 = .ok (.lstore 8, 2) := by decide +kernel
theorem d_ST_powerModulo_16 : decode b_ST_powerModulo 16 = .ok (.lload_n 2, 1) := by decide +kernel
theorem d_ST_powerModulo_17 : decode b_ST_powerModulo 17 = .ok (.lstore 10, 2) := by decide +kernel
theorem d_ST_powerModulo_19 : decode b_ST_powerModulo 19 = .ok (.iconst 0, 1) := by decide +kernel
theorem d_ST_powerModulo_20 : decode b_ST_powerModulo 20 = .ok (.istore 12, 2) := by decide +kernel
theorem d_ST_powerModulo_22 : decode b_ST_powerModulo 22 = .ok (.iload 12, 2) := by decide +kernel
theorem d_ST_powerModulo_24 : decode b_ST_powerModulo 24 = .ok (.bipush 63, 2) := by decide +kernel
theorem d_ST_powerModulo_26 : decode b_ST_powerModulo 26 = .ok (.if_icmp .ge 55, 3) := by decide +kernel
theorem d_ST_powerModulo_29 : decode b_ST_powerModulo 29 = .ok (.lload 10, 2) := by decide +kernel
theorem d_ST_powerModulo_31 : decode b_ST_powerModulo 31 = .ok (.lconst 0, 1) := by decide +kernel
theorem d_ST_powerModulo_32 : decode b_ST_powerModulo 32 = .ok (.lcmp, 1) := by decide +kernel
theorem d_ST_powerModulo_33 : decode b_ST_powerModulo 33 = .ok (.ifCond .le 48, 3) := by decide +kernel
theorem d_ST_powerModulo_36 : decode b_ST_powerModulo 36 = .ok (.lload 10, 2) := by decide +kernel
theorem d_ST_powerModulo_38 : decode b_ST_powerModulo 38 = .ok (.lconst 1, 1) := by decide +kernel
theorem d_ST_powerModulo_39 : decode b_ST_powerModulo 39 = .ok (.land, 1) := by decide +kernel
theorem d_ST_powerModulo_40 : decode b_ST_powerModulo 40 = .ok (.lconst 1, 1) := by decide +kernel
theorem d_ST_powerModulo_41 : decode b_ST_powerModulo 41 = .ok (.lcmp, 1) := by decide +kernel
theorem d_ST_powerModulo_42 : decode b_ST_powerModulo 42 = .ok (.ifCond .ne 15, 3) := by decide +kernel
theorem d_ST_powerModulo_45 : decode b_ST_powerModulo 45 = .ok (.lload 6, 2) := by decide +kernel
theorem d_ST_powerModulo_47 : decode b_ST_powerModulo 47 = .ok (.lload 8, 2) := by decide +kernel
theorem d_ST_powerModulo_49 : decode b_ST_powerModulo 49 = .ok (.lmul, 1) := by decide +kernel
theorem d_ST_powerModulo_50 : decode b_ST_powerModulo 50 = .ok (.lload 4, 2) := by decide +kernel
theorem d_ST_powerModulo_52 : decode b_ST_powerModulo 52 = .ok (.invokestatic 256, 3) := by decide +kernel
theorem d_ST_powerModulo_55 : decode b_ST_powerModulo 55 = .ok (.lstore 6, 2) := by decide +kernel
theorem d_ST_powerModulo_57 : decode b_ST_powerModulo 57 = .ok (.lload 8, 2) := by decide +kernel
theorem d_ST_powerModulo_59 : decode b_ST_powerModulo 59 = .ok (.lload 8, 2) := by decide +kernel
theorem d_ST_powerModulo_61 : decode b_ST_powerModulo 61 = .ok (.lmul, 1) := by decide +kernel
theorem d_ST_powerModulo_62 : decode b_ST_powerModulo 62 = .ok (.lload 4, 2) := by decide +kernel
theorem d_ST_powerModulo_64 : decode b_ST_powerModulo 64 = .ok (.invokestatic 256, 3) := by decide +kernel
theorem d_ST_powerModulo_67 : decode b_ST_powerModulo 67 = .ok (.lstore 8, 2) := by decide +kernel
theorem d_ST_powerModulo_69 : decode b_ST_powerModulo 69 = .ok (.lload 10, 2) := by decide +kernel
theorem d_ST_powerModulo_71 : decode b_ST_powerModulo 71 = .ok (.iconst 1, 1) := by decide +kernel
theorem d_ST_powerModulo_72 : decode b_ST_powerModulo 72 = .ok (.lshr, 1) := by decide +kernel
theorem d_ST_powerModulo_73 : decode b_ST_powerModulo 73 = .ok (.lstore 10, 2) := by decide +kernel
theorem d_ST_powerModulo_75 : decode b_ST_powerModulo 75 = .ok (.iinc 12 1, 3) := by decide +kernel
theorem d_ST_powerModulo_78 : decode b_ST_powerModulo 78 = .ok (.goto (-56), 3) := by decide +kernel
theorem d_ST_powerModulo_81 : decode b_ST_powerModulo 81 = .ok (.lload 6, 2) := by decide +kernel
theorem d_ST_powerModulo_83 : decode b_ST_powerModulo 83 = .ok (.lreturn, 1) := by decide +kernel
