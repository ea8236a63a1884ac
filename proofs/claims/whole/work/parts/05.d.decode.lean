/-! decode rows -/
theorem d_MD_init_0 : decode b_MD_init 0 = .ok (.aload_n 0, 1) := by decide +kernel
theorem d_MD_init_1 : decode b_MD_init 1 = .ok (.invokespecial 1, 3) := by decide +kernel
theorem d_MD_init_4 : decode b_MD_init 4 = .ok (.aload_n 0, 1) := by decide +kernel
theorem d_MD_init_5 : decode b_MD_init 5 = .ok (.iconst 0, 1) := by decide +kernel
theorem d_MD_init_6 : decode b_MD_init 6 = .ok (.putfield 7, 3) := by decide +kernel
theorem d_MD_init_9 : decode b_MD_init 9 = .ok (.aload_n 0, 1) := by decide +kernel
theorem d_MD_init_10 : decode b_MD_init 10 = .ok (.lconst 0, 1) := by decide +kernel
theorem d_MD_init_11 : decode b_MD_init 11 = .ok (.putfield 13, 3) := by decide +kernel
theorem d_MD_init_14 : decode b_MD_init 14 = .ok (.aload_n 0, 1) := by decide +kernel
theorem d_MD_init_15 : decode b_MD_init 15 = .ok (.lconst 0, 1) := by decide +kernel
theorem d_MD_init_16 : decode b_MD_init 16 = .ok (.putfield 17, 3) := by decide +kernel
theorem d_MD_init_19 : decode b_MD_init 19 = .ok (.aload_n 0, 1) := by decide +kernel
theorem d_MD_init_20 : decode b_MD_init 20 = .ok (.lconst 0, 1) := by decide +kernel
theorem d_MD_init_21 : decode b_MD_init 21 = .ok (.putfield 20, 3) := by decide +kernel
theorem d_MD_init_24 : decode b_MD_init 24 = .ok (.aload_n 0, 1) := by decide +kernel
theorem d_MD_init_25 : decode b_MD_init 25 = .ok (.lconst 0, 1) := by decide +kernel
theorem d_MD_init_26 : decode b_MD_init 26 = .ok (.putfield 23, 3) := by decide +kernel
theorem d_MD_init_29 : decode b_MD_init 29 = .ok (.aload_n 0, 1) := by decide +kernel
theorem d_MD_init_30 : decode b_MD_init 30 = .ok (.lconst 0, 1) := by decide +kernel
theorem d_MD_init_31 : decode b_MD_init 31 = .ok (.putfield 26, 3) := by decide +kernel
theorem d_MD_init_34 : decode b_MD_init 34 = .ok (.aload_n 0, 1) := by decide +kernel
theorem d_MD_init_35 : decode b_MD_init 35 = .ok (.lconst 0, 1) := by decide +kernel
theorem d_MD_init_36 : decode b_MD_init 36 = .ok (.putfield 29, 3) := by decide +kernel
theorem d_MD_init_39 : decode b_MD_init 39 = .ok (.aload_n 0, 1) := by decide +kernel
theorem d_MD_init_40 : decode b_MD_init 40 = .ok (.iconst 0, 1) := by decide +kernel
theorem d_MD_init_41 : decode b_MD_init 41 = .ok (.putfield 32, 3) := by decide +kernel
theorem d_MD_init_44 : decode b_MD_init 44 = .ok (.aload_n 0, 1) := by decide +kernel
theorem d_MD_init_45 : decode b_MD_init 45 = .ok (.iconst 0, 1) := by decide +kernel
theorem d_MD_init_46 : decode b_MD_init 46 = .ok (.putfield 35, 3) := by decide +kernel
theorem d_MD_init_49 : decode b_MD_init 49 = .ok (.aload_n 0, 1) := by decide +kernel
theorem d_MD_init_50 : decode b_MD_init 50 = .ok (.bipush 24, 2) := by decide +kernel
theorem d_MD_init_52 : decode b_MD_init 52 = .ok (.newarray .int, 2) := by decide +kernel
theorem d_MD_init_54 : decode b_MD_init 54 = .ok (.putfield 38, 3) := by decide +kernel
theorem d_MD_init_57 : decode b_MD_init 57 = .ok (.aload_n 0, 1) := by decide +kernel
theorem d_MD_init_58 : decode b_MD_init 58 = .ok (.iconst 0, 1) := by decide +kernel
theorem d_MD_init_59 : decode b_MD_init 59 = .ok (.putfield 42, 3) := by decide +kernel
theorem d_MD_init_62 : decode b_MD_init 62 = .ok (.aload_n 0, 1) := by decide +kernel
theorem d_MD_init_63 : decode b_MD_init 63 = .ok (.iconst 0, 1) := by decide +kernel
theorem d_MD_init_64 : decode b_MD_init 64 = .ok (.putfield 45, 3) := by decide +kernel
theorem d_MD_init_67 : decode b_MD_init 67 = .ok (.aload_n 0, 1) := by decide +kernel
theorem d_MD_init_68 : decode b_MD_init 68 = .ok (.bipush 12, 2) := by decide +kernel
theorem d_MD_init_70 : decode b_MD_init 70 = .ok (.newarray .int, 2) := by decide +kernel
theorem d_MD_init_72 : decode b_MD_init 72 = .ok (.putfield 48, 3) := by decide +kernel
theorem d_MD_init_75 : decode b_MD_init 75 = .ok (.aload_n 0, 1) := by decide +kernel
theorem d_MD_init_76 : decode b_MD_init 76 = .ok (.bipush 12, 2) := by decide +kernel
theorem d_MD_init_78 : decode b_MD_init 78 = .ok (.newarray .long, 2) := by decide +kernel
theorem d_MD_init_80 : decode b_MD_init 80 = .ok (.putfield 51, 3) := by decide +kernel
theorem d_MD_init_83 : decode b_MD_init 83 = .ok (.aload_n 0, 1) := by decide +kernel
theorem d_MD_init_84 : decode b_MD_init 84 = .ok (.bipush 12, 2) := by decide +kernel
theorem d_MD_init_86 : decode b_MD_init 86 = .ok (.newarray .int, 2) := by decide +kernel
theorem d_MD_init_88 : decode b_MD_init 88 = .ok (.putfield 55, 3) := by decide +kernel
theorem d_MD_init_91 : decode b_MD_init 91 = .ok (.aload_n 0, 1) := by decide +kernel
theorem d_MD_init_92 : decode b_MD_init 92 = .ok (.bipush 12, 2) := by decide +kernel
theorem d_MD_init_94 : decode b_MD_init 94 = .ok (.newarray .int, 2) := by decide +kernel
theorem d_MD_init_96 : decode b_MD_init 96 = .ok (.putfield 58, 3) := by decide +kernel
theorem d_MD_init_99 : decode b_MD_init 99 = .ok (.aload_n 0, 1) := by decide +kernel
theorem d_MD_init_100 : decode b_MD_init 100 = .ok (.bipush 12, 2) := by decide +kernel
theorem d_MD_init_102 : decode b_MD_init 102 = .ok (.newarray .long, 2) := by decide +kernel
theorem d_MD_init_104 : decode b_MD_init 104 = .ok (.putfield 61, 3) := by decide +kernel
theorem d_MD_init_107 : decode b_MD_init 107 = .ok (.aload_n 0, 1) := by decide +kernel
theorem d_MD_init_108 : decode b_MD_init 108 = .ok (.bipush 72, 2) := by decide +kernel
theorem d_MD_init_110 : decode b_MD_init 110 = .ok (.newarray .long, 2) := by decide +kernel
theorem d_MD_init_112 : decode b_MD_init 112 = .ok (.putfield 64, 3) := by decide +kernel
theorem d_MD_init_115 : decode b_MD_init 115 = .ok (.aload_n 0, 1) := by decide +kernel
theorem d_MD_init_116 : decode b_MD_init 116 = .ok (.bipush 72, 2) := by decide +kernel
theorem d_MD_init_118 : decode b_MD_init 118 = .ok (.newarray .int, 2) := by decide +kernel
theorem d_MD_init_120 : decode b_MD_init 120 = .ok (.putfield 67, 3) := by decide +kernel
theorem d_MD_init_123 : decode b_MD_init 123 = .ok (.aload_n 0, 1) := by decide +kernel
theorem d_MD_init_124 : decode b_MD_init 124 = .ok (.bipush 72, 2) := by decide +kernel
theorem d_MD_init_126 : decode b_MD_init 126 = .ok (.newarray .long, 2) := by decide +kernel
theorem d_MD_init_128 : decode b_MD_init 128 = .ok (.putfield 70, 3) := by decide +kernel
theorem d_MD_init_131 : decode b_MD_init 131 = .ok (.aload_n 0, 1) := by decide +kernel
theorem d_MD_init_132 : decode b_MD_init 132 = .ok (.iconst 0, 1) := by decide +kernel
theorem d_MD_init_133 : decode b_MD_init 133 = .ok (.putfield 73, 3) := by decide +kernel
theorem d_MD_init_136 : decode b_MD_init 136 = .ok (.aload_n 0, 1) := by decide +kernel
theorem d_MD_init_137 : decode b_MD_init 137 = .ok (.bipush 12, 2) := by decide +kernel
theorem d_MD_init_139 : decode b_MD_init 139 = .ok (.newarray .int, 2) := by decide +kernel
theorem d_MD_init_141 : decode b_MD_init 141 = .ok (.putfield 76, 3) := by decide +kernel
theorem d_MD_init_144 : decode b_MD_init 144 = .ok (.aload_n 0, 1) := by decide +kernel
theorem d_MD_init_145 : decode b_MD_init 145 = .ok (.lconst 0, 1) := by decide +kernel
theorem d_MD_init_146 : decode b_MD_init 146 = .ok (.putfield 79, 3) := by decide +kernel
theorem d_MD_init_149 : decode b_MD_init 149 = .ok (.return_, 1) := by decide +kernel
theorem d_MD_prime_0 : decode b_MD_prime 0 = .ok (.iload_n 0, 1) := by decide +kernel
theorem d_MD_prime_1 : decode b_MD_prime 1 = .ok (.iconst 2, 1) := by decide +kernel
theorem d_MD_prime_2 : decode b_MD_prime 2 = .ok (.if_icmp .ge 5, 3) := by decide +kernel
theorem d_MD_prime_5 : decode b_MD_prime 5 = .ok (.iconst 0, 1) := by decide +kernel
theorem d_MD_prime_6 : decode b_MD_prime 6 = .ok (.ireturn, 1) := by decide +kernel
theorem d_MD_prime_7 : decode b_MD_prime 7 = .ok (.iconst 2, 1) := by decide +kernel
theorem d_MD_prime_8 : decode b_MD_prime 8 = .ok (.istore_n 1, 1) := by decide +kernel
theorem d_MD_prime_9 : decode b_MD_prime 9 = .ok (.iload_n 1, 1) := by decide +kernel
theorem d_MD_prime_10 : decode b_MD_prime 10 = .ok (.iload_n 1, 1) := by decide +kernel
theorem d_MD_prime_11 : decode b_MD_prime 11 = .ok (.imul, 1) := by decide +kernel
theorem d_MD_prime_12 : decode b_MD_prime 12 = .ok (.iload_n 0, 1) := by decide +kernel
theorem d_MD_prime_13 : decode b_MD_prime 13 = .ok (.if_icmp .gt 17, 3) := by decide +kernel
theorem d_MD_prime_16 : decode b_MD_prime 16 = .ok (.iload_n 0, 1) := by decide +kernel
theorem d_MD_prime_17 : decode b_MD_prime 17 = .ok (.iload_n 1, 1) := by decide +kernel
theorem d_MD_prime_18 : decode b_MD_prime 18 = .ok (.irem, 1) := by decide +kernel
theorem d_MD_prime_19 : decode b_MD_prime 19 = .ok (.ifCond .ne 5, 3) := by decide +kernel
theorem d_MD_prime_22 : decode b_MD_prime 22 = .ok (.iconst 0, 1) := by decide +kernel
theorem d_MD_prime_23 : decode b_MD_prime 23 = .ok (.ireturn, 1) := by decide +kernel
theorem d_MD_prime_24 : decode b_MD_prime 24 = .ok (.iinc 1 1, 3) := by decide +kernel
theorem d_MD_prime_27 : decode b_MD_prime 27 = .ok (.goto (-18), 3) := by decide +kernel
theorem d_MD_prime_30 : decode b_MD_prime 30 = .ok (.iconst 1, 1) := by decide +kernel
theorem d_MD_prime_31 : decode b_MD_prime 31 = .ok (.ireturn, 1) := by decide +kernel
theorem d_MD_safe_0 : decode b_MD_safe 0 = .ok (.iload_n 0, 1) := by decide +kernel
theorem d_MD_safe_1 : decode b_MD_safe 1 = .ok (.bipush 20, 2) := by decide +kernel
theorem d_MD_safe_3 : decode b_MD_safe 3 = .ok (.if_icmp .lt 37, 3) := by decide +kernel
theorem d_MD_safe_6 : decode b_MD_safe 6 = .ok (.iload_n 0, 1) := by decide +kernel
theorem d_MD_safe_7 : decode b_MD_safe 7 = .ok (.sipush 32767, 3) := by decide +kernel
theorem d_MD_safe_10 : decode b_MD_safe 10 = .ok (.if_icmp .gt 30, 3) := by decide +kernel
theorem d_MD_safe_13 : decode b_MD_safe 13 = .ok (.iload_n 0, 1) := by decide +kernel
theorem d_MD_safe_14 : decode b_MD_safe 14 = .ok (.iconst 2, 1) := by decide +kernel
theorem d_MD_safe_15 : decode b_MD_safe 15 = .ok (.irem, 1) := by decide +kernel
theorem d_MD_safe_16 : decode b_MD_safe 16 = .ok (.iconst 1, 1) := by decide +kernel
theorem d_MD_safe_17 : decode b_MD_safe 17 = .ok (.if_icmp .ne 23, 3) := by decide +kernel
theorem d_MD_safe_20 : decode b_MD_safe 20 = .ok (.iload_n 0, 1) := by decide +kernel
theorem d_MD_safe_21 : decode b_MD_safe 21 = .ok (.invokestatic 82, 3) := by decide +kernel
theorem d_MD_safe_24 : decode b_MD_safe 24 = .ok (.ifCond .eq 16, 3) := by decide +kernel
theorem d_MD_safe_27 : decode b_MD_safe 27 = .ok (.iload_n 0, 1) := by decide +kernel
theorem d_MD_safe_28 : decode b_MD_safe 28 = .ok (.iconst 2, 1) := by decide +kernel
theorem d_MD_safe_29 : decode b_MD_safe 29 = .ok (.idiv, 1) := by decide +kernel
theorem d_MD_safe_30 : decode b_MD_safe 30 = .ok (.invokestatic 82, 3) := by decide +kernel
theorem d_MD_safe_33 : decode b_MD_safe 33 = .ok (.ifCond .eq 7, 3) := by decide +kernel
theorem d_MD_safe_36 : decode b_MD_safe 36 = .ok (.iconst 1, 1) := by decide +kernel
theorem d_MD_safe_37 : decode b_MD_safe 37 = .ok (.goto 4, 3) := by decide +kernel
theorem d_MD_safe_40 : decode b_MD_safe 40 = .ok (.iconst 0, 1) := by decide +kernel
theorem d_MD_safe_41 : decode b_MD_safe 41 = .ok (.ireturn, 1) := by decide +kernel
theorem d_MD_common_0 : decode b_MD_common 0 = .ok (.lload_n 0, 1) := by decide +kernel
theorem d_MD_common_1 : decode b_MD_common 1 = .ok (.lstore 4, 2) := by decide +kernel
theorem d_MD_common_3 : decode b_MD_common 3 = .ok (.lload_n 2, 1) := by decide +kernel
theorem d_MD_common_4 : decode b_MD_common 4 = .ok (.lstore 6, 2) := by decide +kernel
theorem d_MD_common_6 : decode b_MD_common 6 = .ok (.lload 6, 2) := by decide +kernel
theorem d_MD_common_8 : decode b_MD_common 8 = .ok (.lconst 0, 1) := by decide +kernel
theorem d_MD_common_9 : decode b_MD_common 9 = .ok (.lcmp, 1) := by decide +kernel
theorem d_MD_common_10 : decode b_MD_common 10 = .ok (.ifCond .eq 21, 3) := by decide +kernel
theorem d_MD_common_13 : decode b_MD_common 13 = .ok (.lload 4, 2) := by decide +kernel
theorem d_MD_common_15 : decode b_MD_common 15 = .ok (.lload 6, 2) := by decide +kernel
theorem d_MD_common_17 : decode b_MD_common 17 = .ok (.lrem, 1) := by decide +kernel
theorem d_MD_common_18 : decode b_MD_common 18 = .ok (.lstore 8, 2) := by decide +kernel
theorem d_MD_common_20 : decode b_MD_common 20 = .ok (.lload 6, 2) := by decide +kernel
theorem d_MD_common_22 : decode b_MD_common 22 = .ok (.lstore 4, 2) := by decide +kernel
theorem d_MD_common_24 : decode b_MD_common 24 = .ok (.lload 8, 2) := by decide +kernel
theorem d_MD_common_26 : decode b_MD_common 26 = .ok (.lstore 6, 2) := by decide +kernel
theorem d_MD_common_28 : decode b_MD_common 28 = .ok (.goto (-22), 3) := by decide +kernel
theorem d_MD_common_31 : decode b_MD_common 31 = .ok (.lload 4, 2) := by decide +kernel
theorem d_MD_common_33 : decode b_MD_common 33 = .ok (.lreturn, 1) := by decide +kernel
theorem d_MD_raised_0 : decode b_MD_raised 0 = .ok (.lconst 1, 1) := by decide +kernel
theorem d_MD_raised_1 : decode b_MD_raised 1 = .ok (.lload 4, 2) := by decide +kernel
theorem d_MD_raised_3 : decode b_MD_raised 3 = .ok (.lrem, 1) := by decide +kernel
theorem d_MD_raised_4 : decode b_MD_raised 4 = .ok (.lstore 6, 2) := by decide +kernel
theorem d_MD_raised_6 : decode b_MD_raised 6 = .ok (.lload_n 0, 1) := by decide +kernel
theorem d_MD_raised_7 : decode b_MD_raised 7 = .ok (.lload 4, 2) := by decide +kernel
theorem d_MD_raised_9 : decode b_MD_raised 9 = .ok (.lrem, 1) := by decide +kernel
theorem d_MD_raised_10 : decode b_MD_raised 10 = .ok (.lstore 8, 2) := by decide +kernel
theorem d_MD_raised_12 : decode b_MD_raised 12 = .ok (.lload_n 2, 1) := by decide +kernel
theorem d_MD_raised_13 : decode b_MD_raised 13 = .ok (.lstore 10, 2) := by decide +kernel
theorem d_MD_raised_15 : decode b_MD_raised 15 = .ok (.lload 10, 2) := by decide +kernel
theorem d_MD_raised_17 : decode b_MD_raised 17 = .ok (.lconst 0, 1) := by decide +kernel
theorem d_MD_raised_18 : decode b_MD_raised 18 = .ok (.lcmp, 1) := by decide +kernel
theorem d_MD_raised_19 : decode b_MD_raised 19 = .ok (.ifCond .le 41, 3) := by decide +kernel
theorem d_MD_raised_22 : decode b_MD_raised 22 = .ok (.lload 10, 2) := by decide +kernel
theorem d_MD_raised_24 : decode b_MD_raised 24 = .ok (.lconst 1, 1) := by decide +kernel
theorem d_MD_raised_25 : decode b_MD_raised 25 = .ok (.land, 1) := by decide +kernel
theorem d_MD_raised_26 : decode b_MD_raised 26 = .ok (.lconst 1, 1) := by decide +kernel
theorem d_MD_raised_27 : decode b_MD_raised 27 = .ok (.lcmp, 1) := by decide +kernel
theorem d_MD_raised_28 : decode b_MD_raised 28 = .ok (.ifCond .ne 13, 3) := by decide +kernel
theorem d_MD_raised_31 : decode b_MD_raised 31 = .ok (.lload 6, 2) := by decide +kernel
theorem d_MD_raised_33 : decode b_MD_raised 33 = .ok (.lload 8, 2) := by decide +kernel
theorem d_MD_raised_35 : decode b_MD_raised 35 = .ok (.lmul, 1) := by decide +kernel
theorem d_MD_raised_36 : decode b_MD_raised 36 = .ok (.lload 4, 2) := by decide +kernel
theorem d_MD_raised_38 : decode b_MD_raised 38 = .ok (.lrem, 1) := by decide +kernel
theorem d_MD_raised_39 : decode b_MD_raised 39 = .ok (.lstore 6, 2) := by decide +kernel
theorem d_MD_raised_41 : decode b_MD_raised 41 = .ok (.lload 8, 2) := by decide +kernel
theorem d_MD_raised_43 : decode b_MD_raised 43 = .ok (.lload 8, 2) := by decide +kernel
theorem d_MD_raised_45 : decode b_MD_raised 45 = .ok (.lmul, 1) := by decide +kernel
theorem d_MD_raised_46 : decode b_MD_raised 46 = .ok (.lload 4, 2) := by decide +kernel
theorem d_MD_raised_48 : decode b_MD_raised 48 = .ok (.lrem, 1) := by decide +kernel
theorem d_MD_raised_49 : decode b_MD_raised 49 = .ok (.lstore 8, 2) := by decide +kernel
theorem d_MD_raised_51 : decode b_MD_raised 51 = .ok (.lload 10, 2) := by decide +kernel
theorem d_MD_raised_53 : decode b_MD_raised 53 = .ok (.iconst 1, 1) := by decide +kernel
theorem d_MD_raised_54 : decode b_MD_raised 54 = .ok (.lshr, 1) := by decide +kernel
theorem d_MD_raised_55 : decode b_MD_raised 55 = .ok (.lstore 10, 2) := by decide +kernel
theorem d_MD_raised_57 : decode b_MD_raised 57 = .ok (.goto (-42), 3) := by decide +kernel
theorem d_MD_raised_60 : decode b_MD_raised 60 = .ok (.lload 6, 2) := by decide +kernel
theorem d_MD_raised_62 : decode b_MD_raised 62 = .ok (.lreturn, 1) := by decide +kernel
theorem d_MD_inverse_0 : decode b_MD_inverse 0 = .ok (.lload_n 2, 1) := by decide +kernel
theorem d_MD_inverse_1 : decode b_MD_inverse 1 = .ok (.lstore 4, 2) := by decide +kernel
theorem d_MD_inverse_3 : decode b_MD_inverse 3 = .ok (.lload_n 0, 1) := by decide +kernel
theorem d_MD_inverse_4 : decode b_MD_inverse 4 = .ok (.lload_n 2, 1) := by decide +kernel
theorem d_MD_inverse_5 : decode b_MD_inverse 5 = .ok (.lrem, 1) := by decide +kernel
theorem d_MD_inverse_6 : decode b_MD_inverse 6 = .ok (.lstore 6, 2) := by decide +kernel
theorem d_MD_inverse_8 : decode b_MD_inverse 8 = .ok (.lconst 0, 1) := by decide +kernel
theorem d_MD_inverse_9 : decode b_MD_inverse 9 = .ok (.lstore 8, 2) := by decide +kernel
theorem d_MD_inverse_11 : decode b_MD_inverse 11 = .ok (.lconst 1, 1) := by decide +kernel
theorem d_MD_inverse_12 : decode b_MD_inverse 12 = .ok (.lstore 10, 2) := by decide +kernel
theorem d_MD_inverse_14 : decode b_MD_inverse 14 = .ok (.lload 6, 2) := by decide +kernel
theorem d_MD_inverse_16 : decode b_MD_inverse 16 = .ok (.lconst 0, 1) := by decide +kernel
theorem d_MD_inverse_17 : decode b_MD_inverse 17 = .ok (.lcmp, 1) := by decide +kernel
theorem d_MD_inverse_18 : decode b_MD_inverse 18 = .ok (.ifCond .eq 49, 3) := by decide +kernel
theorem d_MD_inverse_21 : decode b_MD_inverse 21 = .ok (.lload 4, 2) := by decide +kernel
theorem d_MD_inverse_23 : decode b_MD_inverse 23 = .ok (.lload 6, 2) := by decide +kernel
theorem d_MD_inverse_25 : decode b_MD_inverse 25 = .ok (.ldiv, 1) := by decide +kernel
theorem d_MD_inverse_26 : decode b_MD_inverse 26 = .ok (.lstore 12, 2) := by decide +kernel
theorem d_MD_inverse_28 : decode b_MD_inverse 28 = .ok (.lload 4, 2) := by decide +kernel
theorem d_MD_inverse_30 : decode b_MD_inverse 30 = .ok (.lload 12, 2) := by decide +kernel
theorem d_MD_inverse_32 : decode b_MD_inverse 32 = .ok (.lload 6, 2) := by decide +kernel
theorem d_MD_inverse_34 : decode b_MD_inverse 34 = .ok (.lmul, 1) := by decide +kernel
theorem d_MD_inverse_35 : decode b_MD_inverse 35 = .ok (.lsub, 1) := by decide +kernel
theorem d_MD_inverse_36 : decode b_MD_inverse 36 = .ok (.lstore 14, 2) := by decide +kernel
theorem d_MD_inverse_38 : decode b_MD_inverse 38 = .ok (.lload 6, 2) := by decide +kernel
theorem d_MD_inverse_40 : decode b_MD_inverse 40 = .ok (.lstore 4, 2) := by decide +kernel
theorem d_MD_inverse_42 : decode b_MD_inverse 42 = .ok (.lload 14, 2) := by decide +kernel
theorem d_MD_inverse_44 : decode b_MD_inverse 44 = .ok (.lstore 6, 2) := by decide +kernel
theorem d_MD_inverse_46 : decode b_MD_inverse 46 = .ok (.lload 8, 2) := by decide +kernel
theorem d_MD_inverse_48 : decode b_MD_inverse 48 = .ok (.lload 12, 2) := by decide +kernel
theorem d_MD_inverse_50 : decode b_MD_inverse 50 = .ok (.lload 10, 2) := by decide +kernel
theorem d_MD_inverse_52 : decode b_MD_inverse 52 = .ok (.lmul, 1) := by decide +kernel
theorem d_MD_inverse_53 : decode b_MD_inverse 53 = .ok (.lsub, 1) := by decide +kernel
theorem d_MD_inverse_54 : decode b_MD_inverse 54 = .ok (.lstore 16, 2) := by decide +kernel
theorem d_MD_inverse_56 : decode b_MD_inverse 56 = .ok (.lload 10, 2) := by decide +kernel
theorem d_MD_inverse_58 : decode b_MD_inverse 58 = .ok (.lstore 8, 2) := by decide +kernel
theorem d_MD_inverse_60 : decode b_MD_inverse 60 = .ok (.lload 16, 2) := by decide +kernel
theorem d_MD_inverse_62 : decode b_MD_inverse 62 = .ok (.lstore 10, 2) := by decide +kernel
theorem d_MD_inverse_64 : decode b_MD_inverse 64 = .ok (.goto (-50), 3) := by decide +kernel
theorem d_MD_inverse_67 : decode b_MD_inverse 67 = .ok (.lload 8, 2) := by decide +kernel
theorem d_MD_inverse_69 : decode b_MD_inverse 69 = .ok (.lconst 0, 1) := by decide +kernel
theorem d_MD_inverse_70 : decode b_MD_inverse 70 = .ok (.lcmp, 1) := by decide +kernel
theorem d_MD_inverse_71 : decode b_MD_inverse 71 = .ok (.ifCond .ge 10, 3) := by decide +kernel
theorem d_MD_inverse_74 : decode b_MD_inverse 74 = .ok (.lload 8, 2) := by decide +kernel
theorem d_MD_inverse_76 : decode b_MD_inverse 76 = .ok (.lload_n 2, 1) := by decide +kernel
theorem d_MD_inverse_77 : decode b_MD_inverse 77 = .ok (.ladd, 1) := by decide +kernel
theorem d_MD_inverse_78 : decode b_MD_inverse 78 = .ok (.goto 5, 3) := by decide +kernel
theorem d_MD_inverse_81 : decode b_MD_inverse 81 = .ok (.lload 8, 2) := by decide +kernel
theorem d_MD_inverse_83 : decode b_MD_inverse 83 = .ok (.lreturn, 1) := by decide +kernel
theorem d_MD_begin_0 : decode b_MD_begin 0 = .ok (.aload_n 0, 1) := by decide +kernel
theorem d_MD_begin_1 : decode b_MD_begin 1 = .ok (.ldc2_w 86, 3) := by decide +kernel
theorem d_MD_begin_4 : decode b_MD_begin 4 = .ok (.putfield 79, 3) := by decide +kernel
theorem d_MD_begin_7 : decode b_MD_begin 7 = .ok (.return_, 1) := by decide +kernel
theorem d_MD_mix_0 : decode b_MD_mix 0 = .ok (.aload_n 0, 1) := by decide +kernel
theorem d_MD_mix_1 : decode b_MD_mix 1 = .ok (.aload_n 0, 1) := by decide +kernel
theorem d_MD_mix_2 : decode b_MD_mix 2 = .ok (.getfield 79, 3) := by decide +kernel
theorem d_MD_mix_5 : decode b_MD_mix 5 = .ok (.lload_n 1, 1) := by decide +kernel
theorem d_MD_mix_6 : decode b_MD_mix 6 = .ok (.lxor, 1) := by decide +kernel
theorem d_MD_mix_7 : decode b_MD_mix 7 = .ok (.ldc2_w 88, 3) := by decide +kernel
theorem d_MD_mix_10 : decode b_MD_mix 10 = .ok (.lmul, 1) := by decide +kernel
theorem d_MD_mix_11 : decode b_MD_mix 11 = .ok (.ldc2_w 90, 3) := by decide +kernel
theorem d_MD_mix_14 : decode b_MD_mix 14 = .ok (.ladd, 1) := by decide +kernel
theorem d_MD_mix_15 : decode b_MD_mix 15 = .ok (.putfield 79, 3) := by decide +kernel
theorem d_MD_mix_18 : decode b_MD_mix 18 = .ok (.return_, 1) := by decide +kernel
theorem d_MD_mixed_0 : decode b_MD_mixed 0 = .ok (.aload_n 0, 1) := by decide +kernel
theorem d_MD_mixed_1 : decode b_MD_mixed 1 = .ok (.getfield 79, 3) := by decide +kernel
theorem d_MD_mixed_4 : decode b_MD_mixed 4 = .ok (.bipush 33, 2) := by decide +kernel
theorem d_MD_mixed_6 : decode b_MD_mixed 6 = .ok (.lushr, 1) := by decide +kernel
theorem d_MD_mixed_7 : decode b_MD_mixed 7 = .ok (.lreturn, 1) := by decide +kernel
theorem d_MD_part_0 : decode b_MD_part 0 = .ok (.iload_n 1, 1) := by decide +kernel
theorem d_MD_part_1 : decode b_MD_part 1 = .ok (.i2l, 1) := by decide +kernel
theorem d_MD_part_2 : decode b_MD_part 2 = .ok (.lconst 1, 1) := by decide +kernel
theorem d_MD_part_3 : decode b_MD_part 3 = .ok (.ladd, 1) := by decide +kernel
theorem d_MD_part_4 : decode b_MD_part 4 = .ok (.lstore_n 2, 1) := by decide +kernel
theorem d_MD_part_5 : decode b_MD_part 5 = .ok (.aload_n 0, 1) := by decide +kernel
theorem d_MD_part_6 : decode b_MD_part 6 = .ok (.getfield 20, 3) := by decide +kernel
theorem d_MD_part_9 : decode b_MD_part 9 = .ok (.aload_n 0, 1) := by decide +kernel
theorem d_MD_part_10 : decode b_MD_part 10 = .ok (.getfield 23, 3) := by decide +kernel
theorem d_MD_part_13 : decode b_MD_part 13 = .ok (.lload_n 2, 1) := by decide +kernel
theorem d_MD_part_14 : decode b_MD_part 14 = .ok (.lmul, 1) := by decide +kernel
theorem d_MD_part_15 : decode b_MD_part 15 = .ok (.ladd, 1) := by decide +kernel
theorem d_MD_part_16 : decode b_MD_part 16 = .ok (.aload_n 0, 1) := by decide +kernel
theorem d_MD_part_17 : decode b_MD_part 17 = .ok (.getfield 26, 3) := by decide +kernel
theorem d_MD_part_20 : decode b_MD_part 20 = .ok (.lload_n 2, 1) := by decide +kernel
theorem d_MD_part_21 : decode b_MD_part 21 = .ok (.lmul, 1) := by decide +kernel
theorem d_MD_part_22 : decode b_MD_part 22 = .ok (.aload_n 0, 1) := by decide +kernel
theorem d_MD_part_23 : decode b_MD_part 23 = .ok (.getfield 17, 3) := by decide +kernel
theorem d_MD_part_26 : decode b_MD_part 26 = .ok (.lrem, 1) := by decide +kernel
theorem d_MD_part_27 : decode b_MD_part 27 = .ok (.lload_n 2, 1) := by decide +kernel
theorem d_MD_part_28 : decode b_MD_part 28 = .ok (.lmul, 1) := by decide +kernel
theorem d_MD_part_29 : decode b_MD_part 29 = .ok (.ladd, 1) := by decide +kernel
theorem d_MD_part_30 : decode b_MD_part 30 = .ok (.aload_n 0, 1) := by decide +kernel
theorem d_MD_part_31 : decode b_MD_part 31 = .ok (.getfield 17, 3) := by decide +kernel
theorem d_MD_part_34 : decode b_MD_part 34 = .ok (.lrem, 1) := by decide +kernel
theorem d_MD_part_35 : decode b_MD_part 35 = .ok (.lreturn, 1) := by decide +kernel
theorem d_MD_check_0 : decode b_MD_check 0 = .ok (.aload_n 0, 1) := by decide +kernel
theorem d_MD_check_1 : decode b_MD_check 1 = .ok (.getfield 29, 3) := by decide +kernel
theorem d_MD_check_4 : decode b_MD_check 4 = .ok (.aload_n 0, 1) := by decide +kernel
theorem d_MD_check_5 : decode b_MD_check 5 = .ok (.iload_n 1, 1) := by decide +kernel
theorem d_MD_check_6 : decode b_MD_check 6 = .ok (.invokevirtual 92, 3) := by decide +kernel
theorem d_MD_check_9 : decode b_MD_check 9 = .ok (.aload_n 0, 1) := by decide +kernel
theorem d_MD_check_10 : decode b_MD_check 10 = .ok (.getfield 13, 3) := by decide +kernel
theorem d_MD_check_13 : decode b_MD_check 13 = .ok (.invokestatic 96, 3) := by decide +kernel
theorem d_MD_check_16 : decode b_MD_check 16 = .ok (.lreturn, 1) := by decide +kernel
theorem d_MD_blockOf_0 : decode b_MD_blockOf 0 = .ok (.aload_n 0, 1) := by decide +kernel
theorem d_MD_blockOf_1 : decode b_MD_blockOf 1 = .ok (.invokevirtual 100, 3) := by decide +kernel
theorem d_MD_blockOf_4 : decode b_MD_blockOf 4 = .ok (.iconst 0, 1) := by decide +kernel
theorem d_MD_blockOf_5 : decode b_MD_blockOf 5 = .ok (.istore_n 1, 1) := by decide +kernel
theorem d_MD_blockOf_6 : decode b_MD_blockOf 6 = .ok (.iload_n 1, 1) := by decide +kernel
theorem d_MD_blockOf_7 : decode b_MD_blockOf 7 = .ok (.aload_n 0, 1) := by decide +kernel
theorem d_MD_blockOf_8 : decode b_MD_blockOf 8 = .ok (.getfield 42, 3) := by decide +kernel
theorem d_MD_blockOf_11 : decode b_MD_blockOf 11 = .ok (.if_icmp .ge 20, 3) := by decide +kernel
theorem d_MD_blockOf_14 : decode b_MD_blockOf 14 = .ok (.aload_n 0, 1) := by decide +kernel
theorem d_MD_blockOf_15 : decode b_MD_blockOf 15 = .ok (.aload_n 0, 1) := by decide +kernel
theorem d_MD_blockOf_16 : decode b_MD_blockOf 16 = .ok (.getfield 38, 3) := by decide +kernel
theorem d_MD_blockOf_19 : decode b_MD_blockOf 19 = .ok (.iload_n 1, 1) := by decide +kernel
theorem d_MD_blockOf_20 : decode b_MD_blockOf 20 = .ok (.iaload, 1) := by decide +kernel
theorem d_MD_blockOf_21 : decode b_MD_blockOf 21 = .ok (.i2l, 1) := by decide +kernel
theorem d_MD_blockOf_22 : decode b_MD_blockOf 22 = .ok (.invokevirtual 103, 3) := by decide +kernel
theorem d_MD_blockOf_25 : decode b_MD_blockOf 25 = .ok (.iinc 1 1, 3) := by decide +kernel
theorem d_MD_blockOf_28 : decode b_MD_blockOf 28 = .ok (.goto (-22), 3) := by decide +kernel
theorem d_MD_blockOf_31 : decode b_MD_blockOf 31 = .ok (.aload_n 0, 1) := by decide +kernel
theorem d_MD_blockOf_32 : decode b_MD_blockOf 32 = .ok (.aload_n 0, 1) := by decide +kernel
theorem d_MD_blockOf_33 : decode b_MD_blockOf 33 = .ok (.getfield 42, 3) := by decide +kernel
theorem d_MD_blockOf_36 : decode b_MD_blockOf 36 = .ok (.i2l, 1) := by decide +kernel
theorem d_MD_blockOf_37 : decode b_MD_blockOf 37 = .ok (.invokevirtual 103, 3) := by decide +kernel
theorem d_MD_blockOf_40 : decode b_MD_blockOf 40 = .ok (.ldc2_w 107, 3) := by decide +kernel
theorem d_MD_blockOf_43 : decode b_MD_blockOf 43 = .ok (.aload_n 0, 1) := by decide +kernel
theorem d_MD_blockOf_44 : decode b_MD_blockOf 44 = .ok (.invokevirtual 109, 3) := by decide +kernel
theorem d_MD_blockOf_47 : decode b_MD_blockOf 47 = .ok (.aload_n 0, 1) := by decide +kernel
theorem d_MD_blockOf_48 : decode b_MD_blockOf 48 = .ok (.getfield 13, 3) := by decide +kernel
theorem d_MD_blockOf_51 : decode b_MD_blockOf 51 = .ok (.ldc2_w 113, 3) := by decide +kernel
theorem d_MD_blockOf_54 : decode b_MD_blockOf 54 = .ok (.lsub, 1) := by decide +kernel
theorem d_MD_blockOf_55 : decode b_MD_blockOf 55 = .ok (.lrem, 1) := by decide +kernel
theorem d_MD_blockOf_56 : decode b_MD_blockOf 56 = .ok (.ladd, 1) := by decide +kernel
theorem d_MD_blockOf_57 : decode b_MD_blockOf 57 = .ok (.lreturn, 1) := by decide +kernel
theorem d_MD_challenge_0 : decode b_MD_challenge 0 = .ok (.aload_n 0, 1) := by decide +kernel
theorem d_MD_challenge_1 : decode b_MD_challenge 1 = .ok (.invokevirtual 100, 3) := by decide +kernel
theorem d_MD_challenge_4 : decode b_MD_challenge 4 = .ok (.aload_n 0, 1) := by decide +kernel
theorem d_MD_challenge_5 : decode b_MD_challenge 5 = .ok (.aload_n 0, 1) := by decide +kernel
theorem d_MD_challenge_6 : decode b_MD_challenge 6 = .ok (.getfield 29, 3) := by decide +kernel
theorem d_MD_challenge_9 : decode b_MD_challenge 9 = .ok (.invokevirtual 103, 3) := by decide +kernel
theorem d_MD_challenge_12 : decode b_MD_challenge 12 = .ok (.aload_n 0, 1) := by decide +kernel
theorem d_MD_challenge_13 : decode b_MD_challenge 13 = .ok (.lload_n 1, 1) := by decide +kernel
theorem d_MD_challenge_14 : decode b_MD_challenge 14 = .ok (.invokevirtual 103, 3) := by decide +kernel
theorem d_MD_challenge_17 : decode b_MD_challenge 17 = .ok (.aload_n 0, 1) := by decide +kernel
theorem d_MD_challenge_18 : decode b_MD_challenge 18 = .ok (.lload_n 3, 1) := by decide +kernel
theorem d_MD_challenge_19 : decode b_MD_challenge 19 = .ok (.invokevirtual 103, 3) := by decide +kernel
theorem d_MD_challenge_22 : decode b_MD_challenge 22 = .ok (.aload_n 0, 1) := by decide +kernel
theorem d_MD_challenge_23 : decode b_MD_challenge 23 = .ok (.lload 5, 2) := by decide +kernel
theorem d_MD_challenge_25 : decode b_MD_challenge 25 = .ok (.invokevirtual 103, 3) := by decide +kernel
theorem d_MD_challenge_28 : decode b_MD_challenge 28 = .ok (.aload_n 0, 1) := by decide +kernel
theorem d_MD_challenge_29 : decode b_MD_challenge 29 = .ok (.lload 7, 2) := by decide +kernel
theorem d_MD_challenge_31 : decode b_MD_challenge 31 = .ok (.invokevirtual 103, 3) := by decide +kernel
theorem d_MD_challenge_34 : decode b_MD_challenge 34 = .ok (.aload_n 0, 1) := by decide +kernel
theorem d_MD_challenge_35 : decode b_MD_challenge 35 = .ok (.lload 9, 2) := by decide +kernel
theorem d_MD_challenge_37 : decode b_MD_challenge 37 = .ok (.invokevirtual 103, 3) := by decide +kernel
theorem d_MD_challenge_40 : decode b_MD_challenge 40 = .ok (.aload_n 0, 1) := by decide +kernel
theorem d_MD_challenge_41 : decode b_MD_challenge 41 = .ok (.invokevirtual 109, 3) := by decide +kernel
theorem d_MD_challenge_44 : decode b_MD_challenge 44 = .ok (.bipush 15, 2) := by decide +kernel
theorem d_MD_challenge_46 : decode b_MD_challenge 46 = .ok (.lushr, 1) := by decide +kernel
theorem d_MD_challenge_47 : decode b_MD_challenge 47 = .ok (.l2i, 1) := by decide +kernel
theorem d_MD_challenge_48 : decode b_MD_challenge 48 = .ok (.ireturn, 1) := by decide +kernel
theorem d_MD_make_0 : decode b_MD_make 0 = .ok (.aload_n 0, 1) := by decide +kernel
theorem d_MD_make_1 : decode b_MD_make 1 = .ok (.getfield 51, 3) := by decide +kernel
theorem d_MD_make_4 : decode b_MD_make 4 = .ok (.iload_n 1, 1) := by decide +kernel
theorem d_MD_make_5 : decode b_MD_make 5 = .ok (.laload, 1) := by decide +kernel
theorem d_MD_make_6 : decode b_MD_make 6 = .ok (.lstore_n 3, 1) := by decide +kernel
theorem d_MD_make_7 : decode b_MD_make 7 = .ok (.aload_n 0, 1) := by decide +kernel
theorem d_MD_make_8 : decode b_MD_make 8 = .ok (.iload_n 2, 1) := by decide +kernel
theorem d_MD_make_9 : decode b_MD_make 9 = .ok (.invokevirtual 92, 3) := by decide +kernel
theorem d_MD_make_12 : decode b_MD_make 12 = .ok (.lstore 5, 2) := by decide +kernel
theorem d_MD_make_14 : decode b_MD_make 14 = .ok (.lload_n 3, 1) := by decide +kernel
theorem d_MD_make_15 : decode b_MD_make 15 = .ok (.ldc2_w 115, 3) := by decide +kernel
theorem d_MD_make_18 : decode b_MD_make 18 = .ok (.lload 5, 2) := by decide +kernel
theorem d_MD_make_20 : decode b_MD_make 20 = .ok (.lmul, 1) := by decide +kernel
theorem d_MD_make_21 : decode b_MD_make 21 = .ok (.aload_n 0, 1) := by decide +kernel
theorem d_MD_make_22 : decode b_MD_make 22 = .ok (.getfield 13, 3) := by decide +kernel
theorem d_MD_make_25 : decode b_MD_make 25 = .ok (.invokestatic 96, 3) := by decide +kernel
theorem d_MD_make_28 : decode b_MD_make 28 = .ok (.lstore 7, 2) := by decide +kernel
theorem d_MD_make_30 : decode b_MD_make 30 = .ok (.aload_n 0, 1) := by decide +kernel
theorem d_MD_make_31 : decode b_MD_make 31 = .ok (.invokevirtual 100, 3) := by decide +kernel
theorem d_MD_make_34 : decode b_MD_make 34 = .ok (.aload_n 0, 1) := by decide +kernel
theorem d_MD_make_35 : decode b_MD_make 35 = .ok (.lload 5, 2) := by decide +kernel
theorem d_MD_make_37 : decode b_MD_make 37 = .ok (.invokevirtual 103, 3) := by decide +kernel
theorem d_MD_make_40 : decode b_MD_make 40 = .ok (.aload_n 0, 1) := by decide +kernel
theorem d_MD_make_41 : decode b_MD_make 41 = .ok (.lload_n 3, 1) := by decide +kernel
theorem d_MD_make_42 : decode b_MD_make 42 = .ok (.invokevirtual 103, 3) := by decide +kernel
theorem d_MD_make_45 : decode b_MD_make 45 = .ok (.aload_n 0, 1) := by decide +kernel
theorem d_MD_make_46 : decode b_MD_make 46 = .ok (.aload_n 0, 1) := by decide +kernel
theorem d_MD_make_47 : decode b_MD_make 47 = .ok (.getfield 32, 3) := by decide +kernel
theorem d_MD_make_50 : decode b_MD_make 50 = .ok (.i2l, 1) := by decide +kernel
theorem d_MD_make_51 : decode b_MD_make 51 = .ok (.invokevirtual 103, 3) := by decide +kernel
theorem d_MD_make_54 : decode b_MD_make 54 = .ok (.aload_n 0, 1) := by decide +kernel
theorem d_MD_make_55 : decode b_MD_make 55 = .ok (.invokevirtual 109, 3) := by decide +kernel
theorem d_MD_make_58 : decode b_MD_make 58 = .ok (.lstore 9, 2) := by decide +kernel
theorem d_MD_make_60 : decode b_MD_make 60 = .ok (.lload_n 3, 1) := by decide +kernel
theorem d_MD_make_61 : decode b_MD_make 61 = .ok (.ldc2_w 117, 3) := by decide +kernel
theorem d_MD_make_64 : decode b_MD_make 64 = .ok (.aload_n 0, 1) := by decide +kernel
theorem d_MD_make_65 : decode b_MD_make 65 = .ok (.getfield 13, 3) := by decide +kernel
theorem d_MD_make_68 : decode b_MD_make 68 = .ok (.invokestatic 96, 3) := by decide +kernel
theorem d_MD_make_71 : decode b_MD_make 71 = .ok (.lstore 11, 2) := by decide +kernel
theorem d_MD_make_73 : decode b_MD_make 73 = .ok (.aload_n 0, 1) := by decide +kernel
theorem d_MD_make_74 : decode b_MD_make 74 = .ok (.lload 11, 2) := by decide +kernel
theorem d_MD_make_76 : decode b_MD_make 76 = .ok (.aload_n 0, 1) := by decide +kernel
theorem d_MD_make_77 : decode b_MD_make 77 = .ok (.iload_n 2, 1) := by decide +kernel
theorem d_MD_make_78 : decode b_MD_make 78 = .ok (.invokevirtual 119, 3) := by decide +kernel
theorem d_MD_make_81 : decode b_MD_make 81 = .ok (.lload 7, 2) := by decide +kernel
theorem d_MD_make_83 : decode b_MD_make 83 = .ok (.lload 7, 2) := by decide +kernel
theorem d_MD_make_85 : decode b_MD_make 85 = .ok (.lmul, 1) := by decide +kernel
theorem d_MD_make_86 : decode b_MD_make 86 = .ok (.aload_n 0, 1) := by decide +kernel
theorem d_MD_make_87 : decode b_MD_make 87 = .ok (.getfield 13, 3) := by decide +kernel
theorem d_MD_make_90 : decode b_MD_make 90 = .ok (.lrem, 1) := by decide +kernel
theorem d_MD_make_91 : decode b_MD_make 91 = .ok (.aload_n 0, 1) := by decide +kernel
theorem d_MD_make_92 : decode b_MD_make 92 = .ok (.getfield 29, 3) := by decide +kernel
theorem d_MD_make_95 : decode b_MD_make 95 = .ok (.lload 9, 2) := by decide +kernel
theorem d_MD_make_97 : decode b_MD_make 97 = .ok (.aload_n 0, 1) := by decide +kernel
theorem d_MD_make_98 : decode b_MD_make 98 = .ok (.getfield 13, 3) := by decide +kernel
theorem d_MD_make_101 : decode b_MD_make 101 = .ok (.invokestatic 96, 3) := by decide +kernel
theorem d_MD_make_104 : decode b_MD_make 104 = .ok (.lload 11, 2) := by decide +kernel
theorem d_MD_make_106 : decode b_MD_make 106 = .ok (.lload 9, 2) := by decide +kernel
theorem d_MD_make_108 : decode b_MD_make 108 = .ok (.aload_n 0, 1) := by decide +kernel
theorem d_MD_make_109 : decode b_MD_make 109 = .ok (.getfield 13, 3) := by decide +kernel
theorem d_MD_make_112 : decode b_MD_make 112 = .ok (.invokestatic 96, 3) := by decide +kernel
theorem d_MD_make_115 : decode b_MD_make 115 = .ok (.invokevirtual 122, 3) := by decide +kernel
theorem d_MD_make_118 : decode b_MD_make 118 = .ok (.istore 13, 2) := by decide +kernel
theorem d_MD_make_120 : decode b_MD_make 120 = .ok (.aload_n 0, 1) := by decide +kernel
theorem d_MD_make_121 : decode b_MD_make 121 = .ok (.getfield 64, 3) := by decide +kernel
theorem d_MD_make_124 : decode b_MD_make 124 = .ok (.bipush 6, 2) := by decide +kernel
theorem d_MD_make_126 : decode b_MD_make 126 = .ok (.iload_n 1, 1) := by decide +kernel
theorem d_MD_make_127 : decode b_MD_make 127 = .ok (.imul, 1) := by decide +kernel
theorem d_MD_make_128 : decode b_MD_make 128 = .ok (.iload_n 2, 1) := by decide +kernel
theorem d_MD_make_129 : decode b_MD_make 129 = .ok (.iadd, 1) := by decide +kernel
theorem d_MD_make_130 : decode b_MD_make 130 = .ok (.lload 7, 2) := by decide +kernel
theorem d_MD_make_132 : decode b_MD_make 132 = .ok (.lastore, 1) := by decide +kernel
theorem d_MD_make_133 : decode b_MD_make 133 = .ok (.aload_n 0, 1) := by decide +kernel
theorem d_MD_make_134 : decode b_MD_make 134 = .ok (.getfield 67, 3) := by decide +kernel
theorem d_MD_make_137 : decode b_MD_make 137 = .ok (.bipush 6, 2) := by decide +kernel
theorem d_MD_make_139 : decode b_MD_make 139 = .ok (.iload_n 1, 1) := by decide +kernel
theorem d_MD_make_140 : decode b_MD_make 140 = .ok (.imul, 1) := by decide +kernel
theorem d_MD_make_141 : decode b_MD_make 141 = .ok (.iload_n 2, 1) := by decide +kernel
theorem d_MD_make_142 : decode b_MD_make 142 = .ok (.iadd, 1) := by decide +kernel
theorem d_MD_make_143 : decode b_MD_make 143 = .ok (.iload 13, 2) := by decide +kernel
theorem d_MD_make_145 : decode b_MD_make 145 = .ok (.iastore, 1) := by decide +kernel
theorem d_MD_make_146 : decode b_MD_make 146 = .ok (.aload_n 0, 1) := by decide +kernel
theorem d_MD_make_147 : decode b_MD_make 147 = .ok (.getfield 70, 3) := by decide +kernel
theorem d_MD_make_150 : decode b_MD_make 150 = .ok (.bipush 6, 2) := by decide +kernel
theorem d_MD_make_152 : decode b_MD_make 152 = .ok (.iload_n 1, 1) := by decide +kernel
theorem d_MD_make_153 : decode b_MD_make 153 = .ok (.imul, 1) := by decide +kernel
theorem d_MD_make_154 : decode b_MD_make 154 = .ok (.iload_n 2, 1) := by decide +kernel
theorem d_MD_make_155 : decode b_MD_make 155 = .ok (.iadd, 1) := by decide +kernel
theorem d_MD_make_156 : decode b_MD_make 156 = .ok (.lload 5, 2) := by decide +kernel
theorem d_MD_make_158 : decode b_MD_make 158 = .ok (.iload 13, 2) := by decide +kernel
theorem d_MD_make_160 : decode b_MD_make 160 = .ok (.i2l, 1) := by decide +kernel
theorem d_MD_make_161 : decode b_MD_make 161 = .ok (.lmul, 1) := by decide +kernel
theorem d_MD_make_162 : decode b_MD_make 162 = .ok (.lload 9, 2) := by decide +kernel
theorem d_MD_make_164 : decode b_MD_make 164 = .ok (.ladd, 1) := by decide +kernel
theorem d_MD_make_165 : decode b_MD_make 165 = .ok (.lastore, 1) := by decide +kernel
theorem d_MD_make_166 : decode b_MD_make 166 = .ok (.return_, 1) := by decide +kernel
theorem d_MD_good_0 : decode b_MD_good 0 = .ok (.aload_n 0, 1) := by decide +kernel
theorem d_MD_good_1 : decode b_MD_good 1 = .ok (.getfield 51, 3) := by decide +kernel
theorem d_MD_good_4 : decode b_MD_good 4 = .ok (.iload_n 1, 1) := by decide +kernel
theorem d_MD_good_5 : decode b_MD_good 5 = .ok (.laload, 1) := by decide +kernel
theorem d_MD_good_6 : decode b_MD_good 6 = .ok (.lstore_n 3, 1) := by decide +kernel
theorem d_MD_good_7 : decode b_MD_good 7 = .ok (.aload_n 0, 1) := by decide +kernel
theorem d_MD_good_8 : decode b_MD_good 8 = .ok (.getfield 64, 3) := by decide +kernel
theorem d_MD_good_11 : decode b_MD_good 11 = .ok (.bipush 6, 2) := by decide +kernel
theorem d_MD_good_13 : decode b_MD_good 13 = .ok (.iload_n 1, 1) := by decide +kernel
theorem d_MD_good_14 : decode b_MD_good 14 = .ok (.imul, 1) := by decide +kernel
theorem d_MD_good_15 : decode b_MD_good 15 = .ok (.iload_n 2, 1) := by decide +kernel
theorem d_MD_good_16 : decode b_MD_good 16 = .ok (.iadd, 1) := by decide +kernel
theorem d_MD_good_17 : decode b_MD_good 17 = .ok (.laload, 1) := by decide +kernel
theorem d_MD_good_18 : decode b_MD_good 18 = .ok (.lstore 5, 2) := by decide +kernel
theorem d_MD_good_20 : decode b_MD_good 20 = .ok (.aload_n 0, 1) := by decide +kernel
theorem d_MD_good_21 : decode b_MD_good 21 = .ok (.getfield 67, 3) := by decide +kernel
theorem d_MD_good_24 : decode b_MD_good 24 = .ok (.bipush 6, 2) := by decide +kernel
theorem d_MD_good_26 : decode b_MD_good 26 = .ok (.iload_n 1, 1) := by decide +kernel
theorem d_MD_good_27 : decode b_MD_good 27 = .ok (.imul, 1) := by decide +kernel
theorem d_MD_good_28 : decode b_MD_good 28 = .ok (.iload_n 2, 1) := by decide +kernel
theorem d_MD_good_29 : decode b_MD_good 29 = .ok (.iadd, 1) := by decide +kernel
theorem d_MD_good_30 : decode b_MD_good 30 = .ok (.iaload, 1) := by decide +kernel
theorem d_MD_good_31 : decode b_MD_good 31 = .ok (.istore 7, 2) := by decide +kernel
theorem d_MD_good_33 : decode b_MD_good 33 = .ok (.aload_n 0, 1) := by decide +kernel
theorem d_MD_good_34 : decode b_MD_good 34 = .ok (.getfield 70, 3) := by decide +kernel
theorem d_MD_good_37 : decode b_MD_good 37 = .ok (.bipush 6, 2) := by decide +kernel
theorem d_MD_good_39 : decode b_MD_good 39 = .ok (.iload_n 1, 1) := by decide +kernel
theorem d_MD_good_40 : decode b_MD_good 40 = .ok (.imul, 1) := by decide +kernel
theorem d_MD_good_41 : decode b_MD_good 41 = .ok (.iload_n 2, 1) := by decide +kernel
theorem d_MD_good_42 : decode b_MD_good 42 = .ok (.iadd, 1) := by decide +kernel
theorem d_MD_good_43 : decode b_MD_good 43 = .ok (.laload, 1) := by decide +kernel
theorem d_MD_good_44 : decode b_MD_good 44 = .ok (.lstore 8, 2) := by decide +kernel
theorem d_MD_good_46 : decode b_MD_good 46 = .ok (.lload_n 3, 1) := by decide +kernel
theorem d_MD_good_47 : decode b_MD_good 47 = .ok (.aload_n 0, 1) := by decide +kernel
theorem d_MD_good_48 : decode b_MD_good 48 = .ok (.getfield 13, 3) := by decide +kernel
theorem d_MD_good_51 : decode b_MD_good 51 = .ok (.invokestatic 126, 3) := by decide +kernel
theorem d_MD_good_54 : decode b_MD_good 54 = .ok (.lconst 1, 1) := by decide +kernel
theorem d_MD_good_55 : decode b_MD_good 55 = .ok (.lcmp, 1) := by decide +kernel
theorem d_MD_good_56 : decode b_MD_good 56 = .ok (.ifCond .ne 53, 3) := by decide +kernel
theorem d_MD_good_59 : decode b_MD_good 59 = .ok (.lload 5, 2) := by decide +kernel
theorem d_MD_good_61 : decode b_MD_good 61 = .ok (.lconst 0, 1) := by decide +kernel
theorem d_MD_good_62 : decode b_MD_good 62 = .ok (.lcmp, 1) := by decide +kernel
theorem d_MD_good_63 : decode b_MD_good 63 = .ok (.ifCond .lt 46, 3) := by decide +kernel
theorem d_MD_good_66 : decode b_MD_good 66 = .ok (.lload 5, 2) := by decide +kernel
theorem d_MD_good_68 : decode b_MD_good 68 = .ok (.aload_n 0, 1) := by decide +kernel
theorem d_MD_good_69 : decode b_MD_good 69 = .ok (.getfield 13, 3) := by decide +kernel
theorem d_MD_good_72 : decode b_MD_good 72 = .ok (.lcmp, 1) := by decide +kernel
theorem d_MD_good_73 : decode b_MD_good 73 = .ok (.ifCond .ge 36, 3) := by decide +kernel
theorem d_MD_good_76 : decode b_MD_good 76 = .ok (.lload 5, 2) := by decide +kernel
theorem d_MD_good_78 : decode b_MD_good 78 = .ok (.aload_n 0, 1) := by decide +kernel
theorem d_MD_good_79 : decode b_MD_good 79 = .ok (.getfield 13, 3) := by decide +kernel
theorem d_MD_good_82 : decode b_MD_good 82 = .ok (.invokestatic 126, 3) := by decide +kernel
theorem d_MD_good_85 : decode b_MD_good 85 = .ok (.lconst 1, 1) := by decide +kernel
theorem d_MD_good_86 : decode b_MD_good 86 = .ok (.lcmp, 1) := by decide +kernel
theorem d_MD_good_87 : decode b_MD_good 87 = .ok (.ifCond .ne 22, 3) := by decide +kernel
theorem d_MD_good_90 : decode b_MD_good 90 = .ok (.iload 7, 2) := by decide +kernel
theorem d_MD_good_92 : decode b_MD_good 92 = .ok (.ifCond .lt 17, 3) := by decide +kernel
theorem d_MD_good_95 : decode b_MD_good 95 = .ok (.iload 7, 2) := by decide +kernel
theorem d_MD_good_97 : decode b_MD_good 97 = .ok (.ldc 130, 2) := by decide +kernel
theorem d_MD_good_99 : decode b_MD_good 99 = .ok (.if_icmp .gt 10, 3) := by decide +kernel
theorem d_MD_good_102 : decode b_MD_good 102 = .ok (.lload 8, 2) := by decide +kernel
theorem d_MD_good_104 : decode b_MD_good 104 = .ok (.lconst 0, 1) := by decide +kernel
theorem d_MD_good_105 : decode b_MD_good 105 = .ok (.lcmp, 1) := by decide +kernel
theorem d_MD_good_106 : decode b_MD_good 106 = .ok (.ifCond .ge 5, 3) := by decide +kernel
theorem d_MD_good_109 : decode b_MD_good 109 = .ok (.iconst 0, 1) := by decide +kernel
theorem d_MD_good_110 : decode b_MD_good 110 = .ok (.ireturn, 1) := by decide +kernel
theorem d_MD_good_111 : decode b_MD_good 111 = .ok (.lload_n 3, 1) := by decide +kernel
theorem d_MD_good_112 : decode b_MD_good 112 = .ok (.ldc2_w 117, 3) := by decide +kernel
theorem d_MD_good_115 : decode b_MD_good 115 = .ok (.aload_n 0, 1) := by decide +kernel
theorem d_MD_good_116 : decode b_MD_good 116 = .ok (.getfield 13, 3) := by decide +kernel
theorem d_MD_good_119 : decode b_MD_good 119 = .ok (.invokestatic 96, 3) := by decide +kernel
theorem d_MD_good_122 : decode b_MD_good 122 = .ok (.lstore 10, 2) := by decide +kernel
theorem d_MD_good_124 : decode b_MD_good 124 = .ok (.lload 5, 2) := by decide +kernel
theorem d_MD_good_126 : decode b_MD_good 126 = .ok (.lload 5, 2) := by decide +kernel
theorem d_MD_good_128 : decode b_MD_good 128 = .ok (.lmul, 1) := by decide +kernel
theorem d_MD_good_129 : decode b_MD_good 129 = .ok (.aload_n 0, 1) := by decide +kernel
theorem d_MD_good_130 : decode b_MD_good 130 = .ok (.getfield 13, 3) := by decide +kernel
theorem d_MD_good_133 : decode b_MD_good 133 = .ok (.lrem, 1) := by decide +kernel
theorem d_MD_good_134 : decode b_MD_good 134 = .ok (.lstore 12, 2) := by decide +kernel
theorem d_MD_good_136 : decode b_MD_good 136 = .ok (.aload_n 0, 1) := by decide +kernel
theorem d_MD_good_137 : decode b_MD_good 137 = .ok (.getfield 29, 3) := by decide +kernel
theorem d_MD_good_140 : decode b_MD_good 140 = .ok (.lload 8, 2) := by decide +kernel
theorem d_MD_good_142 : decode b_MD_good 142 = .ok (.aload_n 0, 1) := by decide +kernel
theorem d_MD_good_143 : decode b_MD_good 143 = .ok (.getfield 13, 3) := by decide +kernel
theorem d_MD_good_146 : decode b_MD_good 146 = .ok (.invokestatic 96, 3) := by decide +kernel
theorem d_MD_good_149 : decode b_MD_good 149 = .ok (.aload_n 0, 1) := by decide +kernel
theorem d_MD_good_150 : decode b_MD_good 150 = .ok (.iload_n 2, 1) := by decide +kernel
theorem d_MD_good_151 : decode b_MD_good 151 = .ok (.invokevirtual 119, 3) := by decide +kernel
theorem d_MD_good_154 : decode b_MD_good 154 = .ok (.iload 7, 2) := by decide +kernel
theorem d_MD_good_156 : decode b_MD_good 156 = .ok (.i2l, 1) := by decide +kernel
theorem d_MD_good_157 : decode b_MD_good 157 = .ok (.aload_n 0, 1) := by decide +kernel
theorem d_MD_good_158 : decode b_MD_good 158 = .ok (.getfield 13, 3) := by decide +kernel
theorem d_MD_good_161 : decode b_MD_good 161 = .ok (.invokestatic 96, 3) := by decide +kernel
theorem d_MD_good_164 : decode b_MD_good 164 = .ok (.aload_n 0, 1) := by decide +kernel
theorem d_MD_good_165 : decode b_MD_good 165 = .ok (.getfield 13, 3) := by decide +kernel
theorem d_MD_good_168 : decode b_MD_good 168 = .ok (.invokestatic 131, 3) := by decide +kernel
theorem d_MD_good_171 : decode b_MD_good 171 = .ok (.lmul, 1) := by decide +kernel
theorem d_MD_good_172 : decode b_MD_good 172 = .ok (.aload_n 0, 1) := by decide +kernel
theorem d_MD_good_173 : decode b_MD_good 173 = .ok (.getfield 13, 3) := by decide +kernel
theorem d_MD_good_176 : decode b_MD_good 176 = .ok (.lrem, 1) := by decide +kernel
theorem d_MD_good_177 : decode b_MD_good 177 = .ok (.lstore 14, 2) := by decide +kernel
theorem d_MD_good_179 : decode b_MD_good 179 = .ok (.lload 10, 2) := by decide +kernel
theorem d_MD_good_181 : decode b_MD_good 181 = .ok (.lload 8, 2) := by decide +kernel
theorem d_MD_good_183 : decode b_MD_good 183 = .ok (.aload_n 0, 1) := by decide +kernel
theorem d_MD_good_184 : decode b_MD_good 184 = .ok (.getfield 13, 3) := by decide +kernel
theorem d_MD_good_187 : decode b_MD_good 187 = .ok (.invokestatic 96, 3) := by decide +kernel
theorem d_MD_good_190 : decode b_MD_good 190 = .ok (.lload 12, 2) := by decide +kernel
theorem d_MD_good_192 : decode b_MD_good 192 = .ok (.iload 7, 2) := by decide +kernel
theorem d_MD_good_194 : decode b_MD_good 194 = .ok (.i2l, 1) := by decide +kernel
theorem d_MD_good_195 : decode b_MD_good 195 = .ok (.aload_n 0, 1) := by decide +kernel
theorem d_MD_good_196 : decode b_MD_good 196 = .ok (.getfield 13, 3) := by decide +kernel
theorem d_MD_good_199 : decode b_MD_good 199 = .ok (.invokestatic 96, 3) := by decide +kernel
theorem d_MD_good_202 : decode b_MD_good 202 = .ok (.aload_n 0, 1) := by decide +kernel
theorem d_MD_good_203 : decode b_MD_good 203 = .ok (.getfield 13, 3) := by decide +kernel
theorem d_MD_good_206 : decode b_MD_good 206 = .ok (.invokestatic 131, 3) := by decide +kernel
theorem d_MD_good_209 : decode b_MD_good 209 = .ok (.lmul, 1) := by decide +kernel
theorem d_MD_good_210 : decode b_MD_good 210 = .ok (.aload_n 0, 1) := by decide +kernel
theorem d_MD_good_211 : decode b_MD_good 211 = .ok (.getfield 13, 3) := by decide +kernel
theorem d_MD_good_214 : decode b_MD_good 214 = .ok (.lrem, 1) := by decide +kernel
theorem d_MD_good_215 : decode b_MD_good 215 = .ok (.lstore 16, 2) := by decide +kernel
theorem d_MD_good_217 : decode b_MD_good 217 = .ok (.aload_n 0, 1) := by decide +kernel
theorem d_MD_good_218 : decode b_MD_good 218 = .ok (.lload 10, 2) := by decide +kernel
theorem d_MD_good_220 : decode b_MD_good 220 = .ok (.aload_n 0, 1) := by decide +kernel
theorem d_MD_good_221 : decode b_MD_good 221 = .ok (.iload_n 2, 1) := by decide +kernel
theorem d_MD_good_222 : decode b_MD_good 222 = .ok (.invokevirtual 119, 3) := by decide +kernel
theorem d_MD_good_225 : decode b_MD_good 225 = .ok (.lload 12, 2) := by decide +kernel
theorem d_MD_good_227 : decode b_MD_good 227 = .ok (.lload 14, 2) := by decide +kernel
theorem d_MD_good_229 : decode b_MD_good 229 = .ok (.lload 16, 2) := by decide +kernel
theorem d_MD_good_231 : decode b_MD_good 231 = .ok (.invokevirtual 122, 3) := by decide +kernel
theorem d_MD_good_234 : decode b_MD_good 234 = .ok (.iload 7, 2) := by decide +kernel
theorem d_MD_good_236 : decode b_MD_good 236 = .ok (.if_icmp .ne 7, 3) := by decide +kernel
theorem d_MD_good_239 : decode b_MD_good 239 = .ok (.iconst 1, 1) := by decide +kernel
theorem d_MD_good_240 : decode b_MD_good 240 = .ok (.goto 4, 3) := by decide +kernel
theorem d_MD_good_243 : decode b_MD_good 243 = .ok (.iconst 0, 1) := by decide +kernel
theorem d_MD_good_244 : decode b_MD_good 244 = .ok (.ireturn, 1) := by decide +kernel
theorem d_MD_bits_0 : decode b_MD_bits 0 = .ok (.iconst 0, 1) := by decide +kernel
theorem d_MD_bits_1 : decode b_MD_bits 1 = .ok (.istore_n 1, 1) := by decide +kernel
theorem d_MD_bits_2 : decode b_MD_bits 2 = .ok (.iconst 0, 1) := by decide +kernel
theorem d_MD_bits_3 : decode b_MD_bits 3 = .ok (.istore_n 2, 1) := by decide +kernel
theorem d_MD_bits_4 : decode b_MD_bits 4 = .ok (.iload_n 2, 1) := by decide +kernel
theorem d_MD_bits_5 : decode b_MD_bits 5 = .ok (.bipush 6, 2) := by decide +kernel
theorem d_MD_bits_7 : decode b_MD_bits 7 = .ok (.if_icmp .ge 17, 3) := by decide +kernel
theorem d_MD_bits_10 : decode b_MD_bits 10 = .ok (.iload_n 1, 1) := by decide +kernel
theorem d_MD_bits_11 : decode b_MD_bits 11 = .ok (.iload_n 0, 1) := by decide +kernel
theorem d_MD_bits_12 : decode b_MD_bits 12 = .ok (.iload_n 2, 1) := by decide +kernel
theorem d_MD_bits_13 : decode b_MD_bits 13 = .ok (.ishr, 1) := by decide +kernel
theorem d_MD_bits_14 : decode b_MD_bits 14 = .ok (.iconst 1, 1) := by decide +kernel
theorem d_MD_bits_15 : decode b_MD_bits 15 = .ok (.iand, 1) := by decide +kernel
theorem d_MD_bits_16 : decode b_MD_bits 16 = .ok (.iadd, 1) := by decide +kernel
theorem d_MD_bits_17 : decode b_MD_bits 17 = .ok (.istore_n 1, 1) := by decide +kernel
theorem d_MD_bits_18 : decode b_MD_bits 18 = .ok (.iinc 2 1, 3) := by decide +kernel
theorem d_MD_bits_21 : decode b_MD_bits 21 = .ok (.goto (-17), 3) := by decide +kernel
theorem d_MD_bits_24 : decode b_MD_bits 24 = .ok (.iload_n 1, 1) := by decide +kernel
theorem d_MD_bits_25 : decode b_MD_bits 25 = .ok (.ireturn, 1) := by decide +kernel
theorem d_MD_isMotion_0 : decode b_MD_isMotion 0 = .ok (.iload_n 1, 1) := by decide +kernel
theorem d_MD_isMotion_1 : decode b_MD_isMotion 1 = .ok (.ifCond .lt 15, 3) := by decide +kernel
theorem d_MD_isMotion_4 : decode b_MD_isMotion 4 = .ok (.iload_n 1, 1) := by decide +kernel
theorem d_MD_isMotion_5 : decode b_MD_isMotion 5 = .ok (.aload_n 0, 1) := by decide +kernel
theorem d_MD_isMotion_6 : decode b_MD_isMotion 6 = .ok (.getfield 45, 3) := by decide +kernel
theorem d_MD_isMotion_9 : decode b_MD_isMotion 9 = .ok (.if_icmp .ge 7, 3) := by decide +kernel
theorem d_MD_isMotion_12 : decode b_MD_isMotion 12 = .ok (.iconst 1, 1) := by decide +kernel
theorem d_MD_isMotion_13 : decode b_MD_isMotion 13 = .ok (.goto 4, 3) := by decide +kernel
theorem d_MD_isMotion_16 : decode b_MD_isMotion 16 = .ok (.iconst 0, 1) := by decide +kernel
theorem d_MD_isMotion_17 : decode b_MD_isMotion 17 = .ok (.ireturn, 1) := by decide +kernel
theorem d_MD_isTrustee_0 : decode b_MD_isTrustee 0 = .ok (.iload_n 0, 1) := by decide +kernel
theorem d_MD_isTrustee_1 : decode b_MD_isTrustee 1 = .ok (.ifCond .lt 13, 3) := by decide +kernel
theorem d_MD_isTrustee_4 : decode b_MD_isTrustee 4 = .ok (.iload_n 0, 1) := by decide +kernel
theorem d_MD_isTrustee_5 : decode b_MD_isTrustee 5 = .ok (.bipush 6, 2) := by decide +kernel
theorem d_MD_isTrustee_7 : decode b_MD_isTrustee 7 = .ok (.if_icmp .ge 7, 3) := by decide +kernel
theorem d_MD_isTrustee_10 : decode b_MD_isTrustee 10 = .ok (.iconst 1, 1) := by decide +kernel
theorem d_MD_isTrustee_11 : decode b_MD_isTrustee 11 = .ok (.goto 4, 3) := by decide +kernel
theorem d_MD_isTrustee_14 : decode b_MD_isTrustee 14 = .ok (.iconst 0, 1) := by decide +kernel
theorem d_MD_isTrustee_15 : decode b_MD_isTrustee 15 = .ok (.ireturn, 1) := by decide +kernel
theorem d_MD_thrown_0 : decode b_MD_thrown 0 = .ok (.aload_n 0, 1) := by decide +kernel
theorem d_MD_thrown_1 : decode b_MD_thrown 1 = .ok (.getfield 7, 3) := by decide +kernel
theorem d_MD_thrown_4 : decode b_MD_thrown 4 = .ok (.ireturn, 1) := by decide +kernel
theorem d_MD_deal_0 : decode b_MD_deal 0 = .ok (.iload_n 1, 1) := by decide +kernel
theorem d_MD_deal_1 : decode b_MD_deal 1 = .ok (.invokestatic 134, 3) := by decide +kernel
theorem d_MD_deal_4 : decode b_MD_deal 4 = .ok (.ifCond .eq 28, 3) := by decide +kernel
theorem d_MD_deal_7 : decode b_MD_deal 7 = .ok (.iload_n 2, 1) := by decide +kernel
theorem d_MD_deal_8 : decode b_MD_deal 8 = .ok (.invokestatic 134, 3) := by decide +kernel
theorem d_MD_deal_11 : decode b_MD_deal 11 = .ok (.ifCond .eq 21, 3) := by decide +kernel
theorem d_MD_deal_14 : decode b_MD_deal 14 = .ok (.iload_n 1, 1) := by decide +kernel
theorem d_MD_deal_15 : decode b_MD_deal 15 = .ok (.iload_n 2, 1) := by decide +kernel
theorem d_MD_deal_16 : decode b_MD_deal 16 = .ok (.if_icmp .eq 16, 3) := by decide +kernel
theorem d_MD_deal_19 : decode b_MD_deal 19 = .ok (.iload_n 3, 1) := by decide +kernel
theorem d_MD_deal_20 : decode b_MD_deal 20 = .ok (.ifCond .lt 12, 3) := by decide +kernel
theorem d_MD_deal_23 : decode b_MD_deal 23 = .ok (.iload 4, 2) := by decide +kernel
theorem d_MD_deal_25 : decode b_MD_deal 25 = .ok (.ifCond .lt 7, 3) := by decide +kernel
theorem d_MD_deal_28 : decode b_MD_deal 28 = .ok (.iconst 1, 1) := by decide +kernel
theorem d_MD_deal_29 : decode b_MD_deal 29 = .ok (.goto 4, 3) := by decide +kernel
theorem d_MD_deal_32 : decode b_MD_deal 32 = .ok (.iconst 0, 1) := by decide +kernel
theorem d_MD_deal_33 : decode b_MD_deal 33 = .ok (.istore 6, 2) := by decide +kernel
theorem d_MD_deal_35 : decode b_MD_deal 35 = .ok (.iload 6, 2) := by decide +kernel
theorem d_MD_deal_37 : decode b_MD_deal 37 = .ok (.ifCond .eq 40, 3) := by decide +kernel
theorem d_MD_deal_40 : decode b_MD_deal 40 = .ok (.iload 5, 2) := by decide +kernel
theorem d_MD_deal_42 : decode b_MD_deal 42 = .ok (.iconst 2, 1) := by decide +kernel
theorem d_MD_deal_43 : decode b_MD_deal 43 = .ok (.if_icmp .lt 31, 3) := by decide +kernel
theorem d_MD_deal_46 : decode b_MD_deal 46 = .ok (.iload 5, 2) := by decide +kernel
theorem d_MD_deal_48 : decode b_MD_deal 48 = .ok (.iload_n 1, 1) := by decide +kernel
theorem d_MD_deal_49 : decode b_MD_deal 49 = .ok (.iload_n 2, 1) := by decide +kernel
theorem d_MD_deal_50 : decode b_MD_deal 50 = .ok (.imul, 1) := by decide +kernel
theorem d_MD_deal_51 : decode b_MD_deal 51 = .ok (.iconst 2, 1) := by decide +kernel
theorem d_MD_deal_52 : decode b_MD_deal 52 = .ok (.isub, 1) := by decide +kernel
theorem d_MD_deal_53 : decode b_MD_deal 53 = .ok (.if_icmp .gt 21, 3) := by decide +kernel
theorem d_MD_deal_56 : decode b_MD_deal 56 = .ok (.iload 5, 2) := by decide +kernel
theorem d_MD_deal_58 : decode b_MD_deal 58 = .ok (.iload_n 1, 1) := by decide +kernel
theorem d_MD_deal_59 : decode b_MD_deal 59 = .ok (.irem, 1) := by decide +kernel
theorem d_MD_deal_60 : decode b_MD_deal 60 = .ok (.ifCond .eq 14, 3) := by decide +kernel
theorem d_MD_deal_63 : decode b_MD_deal 63 = .ok (.iload 5, 2) := by decide +kernel
theorem d_MD_deal_65 : decode b_MD_deal 65 = .ok (.iload_n 2, 1) := by decide +kernel
theorem d_MD_deal_66 : decode b_MD_deal 66 = .ok (.irem, 1) := by decide +kernel
theorem d_MD_deal_67 : decode b_MD_deal 67 = .ok (.ifCond .eq 7, 3) := by decide +kernel
theorem d_MD_deal_70 : decode b_MD_deal 70 = .ok (.iconst 1, 1) := by decide +kernel
theorem d_MD_deal_71 : decode b_MD_deal 71 = .ok (.goto 4, 3) := by decide +kernel
theorem d_MD_deal_74 : decode b_MD_deal 74 = .ok (.iconst 0, 1) := by decide +kernel
theorem d_MD_deal_75 : decode b_MD_deal 75 = .ok (.istore 6, 2) := by decide +kernel
theorem d_MD_deal_77 : decode b_MD_deal 77 = .ok (.aload_n 0, 1) := by decide +kernel
theorem d_MD_deal_78 : decode b_MD_deal 78 = .ok (.iload 6, 2) := by decide +kernel
theorem d_MD_deal_80 : decode b_MD_deal 80 = .ok (.ifCond .eq 7, 3) := by decide +kernel
theorem d_MD_deal_83 : decode b_MD_deal 83 = .ok (.iconst 0, 1) := by decide +kernel
theorem d_MD_deal_84 : decode b_MD_deal 84 = .ok (.goto 4, 3) := by decide +kernel
theorem d_MD_deal_87 : decode b_MD_deal 87 = .ok (.iconst 1, 1) := by decide +kernel
theorem d_MD_deal_88 : decode b_MD_deal 88 = .ok (.putfield 7, 3) := by decide +kernel
theorem d_MD_deal_91 : decode b_MD_deal 91 = .ok (.iload 6, 2) := by decide +kernel
theorem d_MD_deal_93 : decode b_MD_deal 93 = .ok (.ifCond .ne 4, 3) := by decide +kernel
theorem d_MD_deal_96 : decode b_MD_deal 96 = .ok (.return_, 1) := by decide +kernel
theorem d_MD_deal_97 : decode b_MD_deal 97 = .ok (.aload_n 0, 1) := by decide +kernel
theorem d_MD_deal_98 : decode b_MD_deal 98 = .ok (.iload_n 1, 1) := by decide +kernel
theorem d_MD_deal_99 : decode b_MD_deal 99 = .ok (.iload_n 2, 1) := by decide +kernel
theorem d_MD_deal_100 : decode b_MD_deal 100 = .ok (.imul, 1) := by decide +kernel
theorem d_MD_deal_101 : decode b_MD_deal 101 = .ok (.i2l, 1) := by decide +kernel
theorem d_MD_deal_102 : decode b_MD_deal 102 = .ok (.putfield 13, 3) := by decide +kernel
theorem d_MD_deal_105 : decode b_MD_deal 105 = .ok (.aload_n 0, 1) := by decide +kernel
theorem d_MD_deal_106 : decode b_MD_deal 106 = .ok (.iload_n 1, 1) := by decide +kernel
theorem d_MD_deal_107 : decode b_MD_deal 107 = .ok (.iconst 2, 1) := by decide +kernel
theorem d_MD_deal_108 : decode b_MD_deal 108 = .ok (.idiv, 1) := by decide +kernel
theorem d_MD_deal_109 : decode b_MD_deal 109 = .ok (.i2l, 1) := by decide +kernel
theorem d_MD_deal_110 : decode b_MD_deal 110 = .ok (.iload_n 2, 1) := by decide +kernel
theorem d_MD_deal_111 : decode b_MD_deal 111 = .ok (.iconst 2, 1) := by decide +kernel
theorem d_MD_deal_112 : decode b_MD_deal 112 = .ok (.idiv, 1) := by decide +kernel
theorem d_MD_deal_113 : decode b_MD_deal 113 = .ok (.i2l, 1) := by decide +kernel
theorem d_MD_deal_114 : decode b_MD_deal 114 = .ok (.lmul, 1) := by decide +kernel
theorem d_MD_deal_115 : decode b_MD_deal 115 = .ok (.putfield 17, 3) := by decide +kernel
theorem d_MD_deal_118 : decode b_MD_deal 118 = .ok (.aload_n 0, 1) := by decide +kernel
theorem d_MD_deal_119 : decode b_MD_deal 119 = .ok (.ldc2_w 137, 3) := by decide +kernel
theorem d_MD_deal_122 : decode b_MD_deal 122 = .ok (.aload_n 0, 1) := by decide +kernel
theorem d_MD_deal_123 : decode b_MD_deal 123 = .ok (.getfield 17, 3) := by decide +kernel
theorem d_MD_deal_126 : decode b_MD_deal 126 = .ok (.invokestatic 131, 3) := by decide +kernel
theorem d_MD_deal_129 : decode b_MD_deal 129 = .ok (.putfield 20, 3) := by decide +kernel
theorem d_MD_deal_132 : decode b_MD_deal 132 = .ok (.aload_n 0, 1) := by decide +kernel
theorem d_MD_deal_133 : decode b_MD_deal 133 = .ok (.iload_n 3, 1) := by decide +kernel
theorem d_MD_deal_134 : decode b_MD_deal 134 = .ok (.i2l, 1) := by decide +kernel
theorem d_MD_deal_135 : decode b_MD_deal 135 = .ok (.aload_n 0, 1) := by decide +kernel
theorem d_MD_deal_136 : decode b_MD_deal 136 = .ok (.getfield 17, 3) := by decide +kernel
theorem d_MD_deal_139 : decode b_MD_deal 139 = .ok (.lrem, 1) := by decide +kernel
theorem d_MD_deal_140 : decode b_MD_deal 140 = .ok (.putfield 23, 3) := by decide +kernel
theorem d_MD_deal_143 : decode b_MD_deal 143 = .ok (.aload_n 0, 1) := by decide +kernel
theorem d_MD_deal_144 : decode b_MD_deal 144 = .ok (.iload 4, 2) := by decide +kernel
theorem d_MD_deal_146 : decode b_MD_deal 146 = .ok (.i2l, 1) := by decide +kernel
theorem d_MD_deal_147 : decode b_MD_deal 147 = .ok (.aload_n 0, 1) := by decide +kernel
theorem d_MD_deal_148 : decode b_MD_deal 148 = .ok (.getfield 17, 3) := by decide +kernel
theorem d_MD_deal_151 : decode b_MD_deal 151 = .ok (.lrem, 1) := by decide +kernel
theorem d_MD_deal_152 : decode b_MD_deal 152 = .ok (.putfield 26, 3) := by decide +kernel
theorem d_MD_deal_155 : decode b_MD_deal 155 = .ok (.aload_n 0, 1) := by decide +kernel
theorem d_MD_deal_156 : decode b_MD_deal 156 = .ok (.iload 5, 2) := by decide +kernel
theorem d_MD_deal_158 : decode b_MD_deal 158 = .ok (.i2l, 1) := by decide +kernel
theorem d_MD_deal_159 : decode b_MD_deal 159 = .ok (.iload 5, 2) := by decide +kernel
theorem d_MD_deal_161 : decode b_MD_deal 161 = .ok (.i2l, 1) := by decide +kernel
theorem d_MD_deal_162 : decode b_MD_deal 162 = .ok (.lmul, 1) := by decide +kernel
theorem d_MD_deal_163 : decode b_MD_deal 163 = .ok (.aload_n 0, 1) := by decide +kernel
theorem d_MD_deal_164 : decode b_MD_deal 164 = .ok (.getfield 13, 3) := by decide +kernel
theorem d_MD_deal_167 : decode b_MD_deal 167 = .ok (.lrem, 1) := by decide +kernel
theorem d_MD_deal_168 : decode b_MD_deal 168 = .ok (.putfield 29, 3) := by decide +kernel
theorem d_MD_deal_171 : decode b_MD_deal 171 = .ok (.aload_n 0, 1) := by decide +kernel
theorem d_MD_deal_172 : decode b_MD_deal 172 = .ok (.iconst 0, 1) := by decide +kernel
theorem d_MD_deal_173 : decode b_MD_deal 173 = .ok (.putfield 32, 3) := by decide +kernel
theorem d_MD_deal_176 : decode b_MD_deal 176 = .ok (.aload_n 0, 1) := by decide +kernel
theorem d_MD_deal_177 : decode b_MD_deal 177 = .ok (.iconst 0, 1) := by decide +kernel
theorem d_MD_deal_178 : decode b_MD_deal 178 = .ok (.putfield 35, 3) := by decide +kernel
theorem d_MD_deal_181 : decode b_MD_deal 181 = .ok (.aload_n 0, 1) := by decide +kernel
theorem d_MD_deal_182 : decode b_MD_deal 182 = .ok (.iconst 0, 1) := by decide +kernel
theorem d_MD_deal_183 : decode b_MD_deal 183 = .ok (.putfield 45, 3) := by decide +kernel
theorem d_MD_deal_186 : decode b_MD_deal 186 = .ok (.aload_n 0, 1) := by decide +kernel
theorem d_MD_deal_187 : decode b_MD_deal 187 = .ok (.iconst 0, 1) := by decide +kernel
theorem d_MD_deal_188 : decode b_MD_deal 188 = .ok (.putfield 73, 3) := by decide +kernel
theorem d_MD_deal_191 : decode b_MD_deal 191 = .ok (.return_, 1) := by decide +kernel
theorem d_MD_put_0 : decode b_MD_put 0 = .ok (.aload_n 0, 1) := by decide +kernel
theorem d_MD_put_1 : decode b_MD_put 1 = .ok (.iload_n 2, 1) := by decide +kernel
theorem d_MD_put_2 : decode b_MD_put 2 = .ok (.iconst 1, 1) := by decide +kernel
theorem d_MD_put_3 : decode b_MD_put 3 = .ok (.if_icmp .lt 19, 3) := by decide +kernel
theorem d_MD_put_6 : decode b_MD_put 6 = .ok (.iload_n 2, 1) := by decide +kernel
theorem d_MD_put_7 : decode b_MD_put 7 = .ok (.iconst 4, 1) := by decide +kernel
theorem d_MD_put_8 : decode b_MD_put 8 = .ok (.if_icmp .gt 14, 3) := by decide +kernel
theorem d_MD_put_11 : decode b_MD_put 11 = .ok (.aload_n 0, 1) := by decide +kernel
theorem d_MD_put_12 : decode b_MD_put 12 = .ok (.getfield 42, 3) := by decide +kernel
theorem d_MD_put_15 : decode b_MD_put 15 = .ok (.iload_n 2, 1) := by decide +kernel
theorem d_MD_put_16 : decode b_MD_put 16 = .ok (.iadd, 1) := by decide +kernel
theorem d_MD_put_17 : decode b_MD_put 17 = .ok (.bipush 24, 2) := by decide +kernel
theorem d_MD_put_19 : decode b_MD_put 19 = .ok (.if_icmp .le 7, 3) := by decide +kernel
theorem d_MD_put_22 : decode b_MD_put 22 = .ok (.iconst 1, 1) := by decide +kernel
theorem d_MD_put_23 : decode b_MD_put 23 = .ok (.goto 4, 3) := by decide +kernel
theorem d_MD_put_26 : decode b_MD_put 26 = .ok (.iconst 0, 1) := by decide +kernel
theorem d_MD_put_27 : decode b_MD_put 27 = .ok (.putfield 7, 3) := by decide +kernel
theorem d_MD_put_30 : decode b_MD_put 30 = .ok (.aload_n 0, 1) := by decide +kernel
theorem d_MD_put_31 : decode b_MD_put 31 = .ok (.getfield 7, 3) := by decide +kernel
theorem d_MD_put_34 : decode b_MD_put 34 = .ok (.ifCond .eq 5, 3) := by decide +kernel
theorem d_MD_put_37 : decode b_MD_put 37 = .ok (.iconst 0, 1) := by decide +kernel
theorem d_MD_put_38 : decode b_MD_put 38 = .ok (.ireturn, 1) := by decide +kernel
theorem d_MD_put_39 : decode b_MD_put 39 = .ok (.iload_n 2, 1) := by decide +kernel
theorem d_MD_put_40 : decode b_MD_put 40 = .ok (.iconst 1, 1) := by decide +kernel
theorem d_MD_put_41 : decode b_MD_put 41 = .ok (.isub, 1) := by decide +kernel
theorem d_MD_put_42 : decode b_MD_put 42 = .ok (.istore_n 3, 1) := by decide +kernel
theorem d_MD_put_43 : decode b_MD_put 43 = .ok (.iload_n 3, 1) := by decide +kernel
theorem d_MD_put_44 : decode b_MD_put 44 = .ok (.ifCond .lt 38, 3) := by decide +kernel
theorem d_MD_put_47 : decode b_MD_put 47 = .ok (.aload_n 0, 1) := by decide +kernel
theorem d_MD_put_48 : decode b_MD_put 48 = .ok (.getfield 38, 3) := by decide +kernel
theorem d_MD_put_51 : decode b_MD_put 51 = .ok (.aload_n 0, 1) := by decide +kernel
theorem d_MD_put_52 : decode b_MD_put 52 = .ok (.getfield 42, 3) := by decide +kernel
theorem d_MD_put_55 : decode b_MD_put 55 = .ok (.iload_n 1, 1) := by decide +kernel
theorem d_MD_put_56 : decode b_MD_put 56 = .ok (.bipush 8, 2) := by decide +kernel
theorem d_MD_put_58 : decode b_MD_put 58 = .ok (.iload_n 3, 1) := by decide +kernel
theorem d_MD_put_59 : decode b_MD_put 59 = .ok (.imul, 1) := by decide +kernel
theorem d_MD_put_60 : decode b_MD_put 60 = .ok (.ishr, 1) := by decide +kernel
theorem d_MD_put_61 : decode b_MD_put 61 = .ok (.sipush 255, 3) := by decide +kernel
theorem d_MD_put_64 : decode b_MD_put 64 = .ok (.iand, 1) := by decide +kernel
theorem d_MD_put_65 : decode b_MD_put 65 = .ok (.iastore, 1) := by decide +kernel
theorem d_MD_put_66 : decode b_MD_put 66 = .ok (.aload_n 0, 1) := by decide +kernel
theorem d_MD_put_67 : decode b_MD_put 67 = .ok (.dup, 1) := by decide +kernel
theorem d_MD_put_68 : decode b_MD_put 68 = .ok (.getfield 42, 3) := by decide +kernel
theorem d_MD_put_71 : decode b_MD_put 71 = .ok (.iconst 1, 1) := by decide +kernel
theorem d_MD_put_72 : decode b_MD_put 72 = .ok (.iadd, 1) := by decide +kernel
theorem d_MD_put_73 : decode b_MD_put 73 = .ok (.putfield 42, 3) := by decide +kernel
theorem d_MD_put_76 : decode b_MD_put 76 = .ok (.iinc 3 (-1), 3) := by decide +kernel
theorem d_MD_put_79 : decode b_MD_put 79 = .ok (.goto (-36), 3) := by decide +kernel
theorem d_MD_put_82 : decode b_MD_put 82 = .ok (.aload_n 0, 1) := by decide +kernel
theorem d_MD_put_83 : decode b_MD_put 83 = .ok (.getfield 42, 3) := by decide +kernel
theorem d_MD_put_86 : decode b_MD_put 86 = .ok (.ireturn, 1) := by decide +kernel
theorem d_MD_motion_0 : decode b_MD_motion 0 = .ok (.aload_n 0, 1) := by decide +kernel
theorem d_MD_motion_1 : decode b_MD_motion 1 = .ok (.aload_n 0, 1) := by decide +kernel
theorem d_MD_motion_2 : decode b_MD_motion 2 = .ok (.getfield 13, 3) := by decide +kernel
theorem d_MD_motion_5 : decode b_MD_motion 5 = .ok (.lconst 0, 1) := by decide +kernel
theorem d_MD_motion_6 : decode b_MD_motion 6 = .ok (.lcmp, 1) := by decide +kernel
theorem d_MD_motion_7 : decode b_MD_motion 7 = .ok (.ifCond .eq 19, 3) := by decide +kernel
theorem d_MD_motion_10 : decode b_MD_motion 10 = .ok (.aload_n 0, 1) := by decide +kernel
theorem d_MD_motion_11 : decode b_MD_motion 11 = .ok (.getfield 42, 3) := by decide +kernel
theorem d_MD_motion_14 : decode b_MD_motion 14 = .ok (.ifCond .eq 12, 3) := by decide +kernel
theorem d_MD_motion_17 : decode b_MD_motion 17 = .ok (.aload_n 0, 1) := by decide +kernel
theorem d_MD_motion_18 : decode b_MD_motion 18 = .ok (.getfield 45, 3) := by decide +kernel
theorem d_MD_motion_21 : decode b_MD_motion 21 = .ok (.bipush 12, 2) := by decide +kernel
theorem d_MD_motion_23 : decode b_MD_motion 23 = .ok (.if_icmp .ne 7, 3) := by decide +kernel
theorem d_MD_motion_26 : decode b_MD_motion 26 = .ok (.iconst 1, 1) := by decide +kernel
theorem d_MD_motion_27 : decode b_MD_motion 27 = .ok (.goto 4, 3) := by decide +kernel
theorem d_MD_motion_30 : decode b_MD_motion 30 = .ok (.iconst 0, 1) := by decide +kernel
theorem d_MD_motion_31 : decode b_MD_motion 31 = .ok (.putfield 7, 3) := by decide +kernel
theorem d_MD_motion_34 : decode b_MD_motion 34 = .ok (.aload_n 0, 1) := by decide +kernel
theorem d_MD_motion_35 : decode b_MD_motion 35 = .ok (.getfield 7, 3) := by decide +kernel
theorem d_MD_motion_38 : decode b_MD_motion 38 = .ok (.ifCond .eq 5, 3) := by decide +kernel
theorem d_MD_motion_41 : decode b_MD_motion 41 = .ok (.iconst 0, 1) := by decide +kernel
theorem d_MD_motion_42 : decode b_MD_motion 42 = .ok (.ireturn, 1) := by decide +kernel
theorem d_MD_motion_43 : decode b_MD_motion 43 = .ok (.aload_n 0, 1) := by decide +kernel
theorem d_MD_motion_44 : decode b_MD_motion 44 = .ok (.getfield 51, 3) := by decide +kernel
theorem d_MD_motion_47 : decode b_MD_motion 47 = .ok (.aload_n 0, 1) := by decide +kernel
theorem d_MD_motion_48 : decode b_MD_motion 48 = .ok (.getfield 45, 3) := by decide +kernel
theorem d_MD_motion_51 : decode b_MD_motion 51 = .ok (.aload_n 0, 1) := by decide +kernel
theorem d_MD_motion_52 : decode b_MD_motion 52 = .ok (.invokevirtual 139, 3) := by decide +kernel
theorem d_MD_motion_55 : decode b_MD_motion 55 = .ok (.lastore, 1) := by decide +kernel
theorem d_MD_motion_56 : decode b_MD_motion 56 = .ok (.aload_n 0, 1) := by decide +kernel
theorem d_MD_motion_57 : decode b_MD_motion 57 = .ok (.iconst 0, 1) := by decide +kernel
theorem d_MD_motion_58 : decode b_MD_motion 58 = .ok (.putfield 42, 3) := by decide +kernel
theorem d_MD_motion_61 : decode b_MD_motion 61 = .ok (.aload_n 0, 1) := by decide +kernel
theorem d_MD_motion_62 : decode b_MD_motion 62 = .ok (.getfield 48, 3) := by decide +kernel
theorem d_MD_motion_65 : decode b_MD_motion 65 = .ok (.aload_n 0, 1) := by decide +kernel
theorem d_MD_motion_66 : decode b_MD_motion 66 = .ok (.getfield 45, 3) := by decide +kernel
theorem d_MD_motion_69 : decode b_MD_motion 69 = .ok (.iconst 0, 1) := by decide +kernel
theorem d_MD_motion_70 : decode b_MD_motion 70 = .ok (.iastore, 1) := by decide +kernel
theorem d_MD_motion_71 : decode b_MD_motion 71 = .ok (.aload_n 0, 1) := by decide +kernel
theorem d_MD_motion_72 : decode b_MD_motion 72 = .ok (.getfield 55, 3) := by decide +kernel
theorem d_MD_motion_75 : decode b_MD_motion 75 = .ok (.aload_n 0, 1) := by decide +kernel
theorem d_MD_motion_76 : decode b_MD_motion 76 = .ok (.getfield 45, 3) := by decide +kernel
theorem d_MD_motion_79 : decode b_MD_motion 79 = .ok (.iconst 0, 1) := by decide +kernel
theorem d_MD_motion_80 : decode b_MD_motion 80 = .ok (.iastore, 1) := by decide +kernel
theorem d_MD_motion_81 : decode b_MD_motion 81 = .ok (.aload_n 0, 1) := by decide +kernel
theorem d_MD_motion_82 : decode b_MD_motion 82 = .ok (.getfield 58, 3) := by decide +kernel
theorem d_MD_motion_85 : decode b_MD_motion 85 = .ok (.aload_n 0, 1) := by decide +kernel
theorem d_MD_motion_86 : decode b_MD_motion 86 = .ok (.getfield 45, 3) := by decide +kernel
theorem d_MD_motion_89 : decode b_MD_motion 89 = .ok (.iconst 0, 1) := by decide +kernel
theorem d_MD_motion_90 : decode b_MD_motion 90 = .ok (.iastore, 1) := by decide +kernel
theorem d_MD_motion_91 : decode b_MD_motion 91 = .ok (.aload_n 0, 1) := by decide +kernel
theorem d_MD_motion_92 : decode b_MD_motion 92 = .ok (.getfield 61, 3) := by decide +kernel
theorem d_MD_motion_95 : decode b_MD_motion 95 = .ok (.aload_n 0, 1) := by decide +kernel
theorem d_MD_motion_96 : decode b_MD_motion 96 = .ok (.getfield 45, 3) := by decide +kernel
theorem d_MD_motion_99 : decode b_MD_motion 99 = .ok (.lconst 0, 1) := by decide +kernel
theorem d_MD_motion_100 : decode b_MD_motion 100 = .ok (.lastore, 1) := by decide +kernel
theorem d_MD_motion_101 : decode b_MD_motion 101 = .ok (.aload_n 0, 1) := by decide +kernel
theorem d_MD_motion_102 : decode b_MD_motion 102 = .ok (.dup, 1) := by decide +kernel
theorem d_MD_motion_103 : decode b_MD_motion 103 = .ok (.getfield 45, 3) := by decide +kernel
theorem d_MD_motion_106 : decode b_MD_motion 106 = .ok (.iconst 1, 1) := by decide +kernel
theorem d_MD_motion_107 : decode b_MD_motion 107 = .ok (.iadd, 1) := by decide +kernel
theorem d_MD_motion_108 : decode b_MD_motion 108 = .ok (.putfield 45, 3) := by decide +kernel
theorem d_MD_motion_111 : decode b_MD_motion 111 = .ok (.aload_n 0, 1) := by decide +kernel
theorem d_MD_motion_112 : decode b_MD_motion 112 = .ok (.getfield 45, 3) := by decide +kernel
theorem d_MD_motion_115 : decode b_MD_motion 115 = .ok (.iconst 1, 1) := by decide +kernel
theorem d_MD_motion_116 : decode b_MD_motion 116 = .ok (.isub, 1) := by decide +kernel
theorem d_MD_motion_117 : decode b_MD_motion 117 = .ok (.ireturn, 1) := by decide +kernel
theorem d_MD_voice_0 : decode b_MD_voice 0 = .ok (.aload_n 0, 1) := by decide +kernel
theorem d_MD_voice_1 : decode b_MD_voice 1 = .ok (.getfield 55, 3) := by decide +kernel
theorem d_MD_voice_4 : decode b_MD_voice 4 = .ok (.iload_n 1, 1) := by decide +kernel
theorem d_MD_voice_5 : decode b_MD_voice 5 = .ok (.iaload, 1) := by decide +kernel
theorem d_MD_voice_6 : decode b_MD_voice 6 = .ok (.aload_n 0, 1) := by decide +kernel
theorem d_MD_voice_7 : decode b_MD_voice 7 = .ok (.getfield 58, 3) := by decide +kernel
theorem d_MD_voice_10 : decode b_MD_voice 10 = .ok (.iload_n 1, 1) := by decide +kernel
theorem d_MD_voice_11 : decode b_MD_voice 11 = .ok (.iaload, 1) := by decide +kernel
theorem d_MD_voice_12 : decode b_MD_voice 12 = .ok (.ior, 1) := by decide +kernel
theorem d_MD_voice_13 : decode b_MD_voice 13 = .ok (.iload_n 2, 1) := by decide +kernel
theorem d_MD_voice_14 : decode b_MD_voice 14 = .ok (.ishr, 1) := by decide +kernel
theorem d_MD_voice_15 : decode b_MD_voice 15 = .ok (.iconst 1, 1) := by decide +kernel
theorem d_MD_voice_16 : decode b_MD_voice 16 = .ok (.iand, 1) := by decide +kernel
theorem d_MD_voice_17 : decode b_MD_voice 17 = .ok (.iconst 1, 1) := by decide +kernel
theorem d_MD_voice_18 : decode b_MD_voice 18 = .ok (.if_icmp .ne 7, 3) := by decide +kernel
theorem d_MD_voice_21 : decode b_MD_voice 21 = .ok (.iconst 1, 1) := by decide +kernel
theorem d_MD_voice_22 : decode b_MD_voice 22 = .ok (.goto 4, 3) := by decide +kernel
theorem d_MD_voice_25 : decode b_MD_voice 25 = .ok (.iconst 0, 1) := by decide +kernel
theorem d_MD_voice_26 : decode b_MD_voice 26 = .ok (.ireturn, 1) := by decide +kernel
theorem d_MD_consent_0 : decode b_MD_consent 0 = .ok (.aload_n 0, 1) := by decide +kernel
theorem d_MD_consent_1 : decode b_MD_consent 1 = .ok (.aload_n 0, 1) := by decide +kernel
theorem d_MD_consent_2 : decode b_MD_consent 2 = .ok (.iload_n 1, 1) := by decide +kernel
theorem d_MD_consent_3 : decode b_MD_consent 3 = .ok (.invokevirtual 142, 3) := by decide +kernel
theorem d_MD_consent_6 : decode b_MD_consent 6 = .ok (.ifCond .eq 10, 3) := by decide +kernel
theorem d_MD_consent_9 : decode b_MD_consent 9 = .ok (.iload_n 2, 1) := by decide +kernel
theorem d_MD_consent_10 : decode b_MD_consent 10 = .ok (.invokestatic 145, 3) := by decide +kernel
theorem d_MD_consent_13 : decode b_MD_consent 13 = .ok (.ifCond .ne 7, 3) := by decide +kernel
theorem d_MD_consent_16 : decode b_MD_consent 16 = .ok (.iconst 1, 1) := by decide +kernel
theorem d_MD_consent_17 : decode b_MD_consent 17 = .ok (.goto 38, 3) := by decide +kernel
theorem d_MD_consent_20 : decode b_MD_consent 20 = .ok (.aload_n 0, 1) := by decide +kernel
theorem d_MD_consent_21 : decode b_MD_consent 21 = .ok (.getfield 48, 3) := by decide +kernel
theorem d_MD_consent_24 : decode b_MD_consent 24 = .ok (.iload_n 1, 1) := by decide +kernel
theorem d_MD_consent_25 : decode b_MD_consent 25 = .ok (.iaload, 1) := by decide +kernel
theorem d_MD_consent_26 : decode b_MD_consent 26 = .ok (.ifCond .ne 24, 3) := by decide +kernel
theorem d_MD_consent_29 : decode b_MD_consent 29 = .ok (.aload_n 0, 1) := by decide +kernel
theorem d_MD_consent_30 : decode b_MD_consent 30 = .ok (.getfield 35, 3) := by decide +kernel
theorem d_MD_consent_33 : decode b_MD_consent 33 = .ok (.iload_n 2, 1) := by decide +kernel
theorem d_MD_consent_34 : decode b_MD_consent 34 = .ok (.ishr, 1) := by decide +kernel
theorem d_MD_consent_35 : decode b_MD_consent 35 = .ok (.iconst 1, 1) := by decide +kernel
theorem d_MD_consent_36 : decode b_MD_consent 36 = .ok (.iand, 1) := by decide +kernel
theorem d_MD_consent_37 : decode b_MD_consent 37 = .ok (.iconst 1, 1) := by decide +kernel
theorem d_MD_consent_38 : decode b_MD_consent 38 = .ok (.if_icmp .eq 12, 3) := by decide +kernel
theorem d_MD_consent_41 : decode b_MD_consent 41 = .ok (.aload_n 0, 1) := by decide +kernel
theorem d_MD_consent_42 : decode b_MD_consent 42 = .ok (.iload_n 1, 1) := by decide +kernel
theorem d_MD_consent_43 : decode b_MD_consent 43 = .ok (.iload_n 2, 1) := by decide +kernel
theorem d_MD_consent_44 : decode b_MD_consent 44 = .ok (.invokevirtual 148, 3) := by decide +kernel
theorem d_MD_consent_47 : decode b_MD_consent 47 = .ok (.ifCond .eq 7, 3) := by decide +kernel
theorem d_MD_consent_50 : decode b_MD_consent 50 = .ok (.iconst 2, 1) := by decide +kernel
theorem d_MD_consent_51 : decode b_MD_consent 51 = .ok (.goto 4, 3) := by decide +kernel
theorem d_MD_consent_54 : decode b_MD_consent 54 = .ok (.iconst 0, 1) := by decide +kernel
theorem d_MD_consent_55 : decode b_MD_consent 55 = .ok (.putfield 7, 3) := by decide +kernel
theorem d_MD_consent_58 : decode b_MD_consent 58 = .ok (.aload_n 0, 1) := by decide +kernel
theorem d_MD_consent_59 : decode b_MD_consent 59 = .ok (.getfield 7, 3) := by decide +kernel
theorem d_MD_consent_62 : decode b_MD_consent 62 = .ok (.ifCond .eq 4, 3) := by decide +kernel
theorem d_MD_consent_65 : decode b_MD_consent 65 = .ok (.return_, 1) := by decide +kernel
theorem d_MD_consent_66 : decode b_MD_consent 66 = .ok (.aload_n 0, 1) := by decide +kernel
theorem d_MD_consent_67 : decode b_MD_consent 67 = .ok (.iload_n 1, 1) := by decide +kernel
theorem d_MD_consent_68 : decode b_MD_consent 68 = .ok (.iload_n 2, 1) := by decide +kernel
theorem d_MD_consent_69 : decode b_MD_consent 69 = .ok (.invokevirtual 152, 3) := by decide +kernel
theorem d_MD_consent_72 : decode b_MD_consent 72 = .ok (.aload_n 0, 1) := by decide +kernel
theorem d_MD_consent_73 : decode b_MD_consent 73 = .ok (.getfield 55, 3) := by decide +kernel
theorem d_MD_consent_76 : decode b_MD_consent 76 = .ok (.iload_n 1, 1) := by decide +kernel
theorem d_MD_consent_77 : decode b_MD_consent 77 = .ok (.aload_n 0, 1) := by decide +kernel
theorem d_MD_consent_78 : decode b_MD_consent 78 = .ok (.getfield 55, 3) := by decide +kernel
theorem d_MD_consent_81 : decode b_MD_consent 81 = .ok (.iload_n 1, 1) := by decide +kernel
theorem d_MD_consent_82 : decode b_MD_consent 82 = .ok (.iaload, 1) := by decide +kernel
theorem d_MD_consent_83 : decode b_MD_consent 83 = .ok (.iconst 1, 1) := by decide +kernel
theorem d_MD_consent_84 : decode b_MD_consent 84 = .ok (.iload_n 2, 1) := by decide +kernel
theorem d_MD_consent_85 : decode b_MD_consent 85 = .ok (.ishl, 1) := by decide +kernel
theorem d_MD_consent_86 : decode b_MD_consent 86 = .ok (.ior, 1) := by decide +kernel
theorem d_MD_consent_87 : decode b_MD_consent 87 = .ok (.iastore, 1) := by decide +kernel
theorem d_MD_consent_88 : decode b_MD_consent 88 = .ok (.return_, 1) := by decide +kernel
theorem d_MD_object_0 : decode b_MD_object 0 = .ok (.aload_n 0, 1) := by decide +kernel
theorem d_MD_object_1 : decode b_MD_object 1 = .ok (.aload_n 0, 1) := by decide +kernel
theorem d_MD_object_2 : decode b_MD_object 2 = .ok (.iload_n 1, 1) := by decide +kernel
theorem d_MD_object_3 : decode b_MD_object 3 = .ok (.invokevirtual 142, 3) := by decide +kernel
theorem d_MD_object_6 : decode b_MD_object 6 = .ok (.ifCond .eq 10, 3) := by decide +kernel
theorem d_MD_object_9 : decode b_MD_object 9 = .ok (.iload_n 2, 1) := by decide +kernel
theorem d_MD_object_10 : decode b_MD_object 10 = .ok (.invokestatic 145, 3) := by decide +kernel
theorem d_MD_object_13 : decode b_MD_object 13 = .ok (.ifCond .ne 7, 3) := by decide +kernel
theorem d_MD_object_16 : decode b_MD_object 16 = .ok (.iconst 1, 1) := by decide +kernel
theorem d_MD_object_17 : decode b_MD_object 17 = .ok (.goto 26, 3) := by decide +kernel
theorem d_MD_object_20 : decode b_MD_object 20 = .ok (.aload_n 0, 1) := by decide +kernel
theorem d_MD_object_21 : decode b_MD_object 21 = .ok (.getfield 48, 3) := by decide +kernel
theorem d_MD_object_24 : decode b_MD_object 24 = .ok (.iload_n 1, 1) := by decide +kernel
theorem d_MD_object_25 : decode b_MD_object 25 = .ok (.iaload, 1) := by decide +kernel
theorem d_MD_object_26 : decode b_MD_object 26 = .ok (.ifCond .ne 12, 3) := by decide +kernel
theorem d_MD_object_29 : decode b_MD_object 29 = .ok (.aload_n 0, 1) := by decide +kernel
theorem d_MD_object_30 : decode b_MD_object 30 = .ok (.iload_n 1, 1) := by decide +kernel
theorem d_MD_object_31 : decode b_MD_object 31 = .ok (.iload_n 2, 1) := by decide +kernel
theorem d_MD_object_32 : decode b_MD_object 32 = .ok (.invokevirtual 148, 3) := by decide +kernel
theorem d_MD_object_35 : decode b_MD_object 35 = .ok (.ifCond .eq 7, 3) := by decide +kernel
theorem d_MD_object_38 : decode b_MD_object 38 = .ok (.iconst 2, 1) := by decide +kernel
theorem d_MD_object_39 : decode b_MD_object 39 = .ok (.goto 4, 3) := by decide +kernel
theorem d_MD_object_42 : decode b_MD_object 42 = .ok (.iconst 0, 1) := by decide +kernel
theorem d_MD_object_43 : decode b_MD_object 43 = .ok (.putfield 7, 3) := by decide +kernel
theorem d_MD_object_46 : decode b_MD_object 46 = .ok (.aload_n 0, 1) := by decide +kernel
theorem d_MD_object_47 : decode b_MD_object 47 = .ok (.getfield 7, 3) := by decide +kernel
theorem d_MD_object_50 : decode b_MD_object 50 = .ok (.ifCond .eq 4, 3) := by decide +kernel
theorem d_MD_object_53 : decode b_MD_object 53 = .ok (.return_, 1) := by decide +kernel
theorem d_MD_object_54 : decode b_MD_object 54 = .ok (.aload_n 0, 1) := by decide +kernel
theorem d_MD_object_55 : decode b_MD_object 55 = .ok (.getfield 58, 3) := by decide +kernel
theorem d_MD_object_58 : decode b_MD_object 58 = .ok (.iload_n 1, 1) := by decide +kernel
theorem d_MD_object_59 : decode b_MD_object 59 = .ok (.aload_n 0, 1) := by decide +kernel
theorem d_MD_object_60 : decode b_MD_object 60 = .ok (.getfield 58, 3) := by decide +kernel
theorem d_MD_object_63 : decode b_MD_object 63 = .ok (.iload_n 1, 1) := by decide +kernel
theorem d_MD_object_64 : decode b_MD_object 64 = .ok (.iaload, 1) := by decide +kernel
theorem d_MD_object_65 : decode b_MD_object 65 = .ok (.iconst 1, 1) := by decide +kernel
theorem d_MD_object_66 : decode b_MD_object 66 = .ok (.iload_n 2, 1) := by decide +kernel
theorem d_MD_object_67 : decode b_MD_object 67 = .ok (.ishl, 1) := by decide +kernel
theorem d_MD_object_68 : decode b_MD_object 68 = .ok (.ior, 1) := by decide +kernel
theorem d_MD_object_69 : decode b_MD_object 69 = .ok (.iastore, 1) := by decide +kernel
theorem d_MD_object_70 : decode b_MD_object 70 = .ok (.aload_n 0, 1) := by decide +kernel
theorem d_MD_object_71 : decode b_MD_object 71 = .ok (.getfield 58, 3) := by decide +kernel
theorem d_MD_object_74 : decode b_MD_object 74 = .ok (.iload_n 1, 1) := by decide +kernel
theorem d_MD_object_75 : decode b_MD_object 75 = .ok (.iaload, 1) := by decide +kernel
theorem d_MD_object_76 : decode b_MD_object 76 = .ok (.invokestatic 156, 3) := by decide +kernel
theorem d_MD_object_79 : decode b_MD_object 79 = .ok (.iconst 3, 1) := by decide +kernel
theorem d_MD_object_80 : decode b_MD_object 80 = .ok (.if_icmp .ne 10, 3) := by decide +kernel
theorem d_MD_object_83 : decode b_MD_object 83 = .ok (.aload_n 0, 1) := by decide +kernel
theorem d_MD_object_84 : decode b_MD_object 84 = .ok (.getfield 48, 3) := by decide +kernel
theorem d_MD_object_87 : decode b_MD_object 87 = .ok (.iload_n 1, 1) := by decide +kernel
theorem d_MD_object_88 : decode b_MD_object 88 = .ok (.iconst 2, 1) := by decide +kernel
theorem d_MD_object_89 : decode b_MD_object 89 = .ok (.iastore, 1) := by decide +kernel
theorem d_MD_object_90 : decode b_MD_object 90 = .ok (.return_, 1) := by decide +kernel
theorem d_MD_file_0 : decode b_MD_file 0 = .ok (.aload_n 0, 1) := by decide +kernel
theorem d_MD_file_1 : decode b_MD_file 1 = .ok (.aload_n 0, 1) := by decide +kernel
theorem d_MD_file_2 : decode b_MD_file 2 = .ok (.iload_n 1, 1) := by decide +kernel
theorem d_MD_file_3 : decode b_MD_file 3 = .ok (.invokevirtual 142, 3) := by decide +kernel
theorem d_MD_file_6 : decode b_MD_file 6 = .ok (.ifCond .eq 10, 3) := by decide +kernel
theorem d_MD_file_9 : decode b_MD_file 9 = .ok (.iload_n 2, 1) := by decide +kernel
theorem d_MD_file_10 : decode b_MD_file 10 = .ok (.invokestatic 145, 3) := by decide +kernel
theorem d_MD_file_13 : decode b_MD_file 13 = .ok (.ifCond .ne 7, 3) := by decide +kernel
theorem d_MD_file_16 : decode b_MD_file 16 = .ok (.iconst 1, 1) := by decide +kernel
theorem d_MD_file_17 : decode b_MD_file 17 = .ok (.goto 31, 3) := by decide +kernel
theorem d_MD_file_20 : decode b_MD_file 20 = .ok (.aload_n 0, 1) := by decide +kernel
theorem d_MD_file_21 : decode b_MD_file 21 = .ok (.getfield 48, 3) := by decide +kernel
theorem d_MD_file_24 : decode b_MD_file 24 = .ok (.iload_n 1, 1) := by decide +kernel
theorem d_MD_file_25 : decode b_MD_file 25 = .ok (.iaload, 1) := by decide +kernel
theorem d_MD_file_26 : decode b_MD_file 26 = .ok (.ifCond .ne 17, 3) := by decide +kernel
theorem d_MD_file_29 : decode b_MD_file 29 = .ok (.aload_n 0, 1) := by decide +kernel
theorem d_MD_file_30 : decode b_MD_file 30 = .ok (.getfield 58, 3) := by decide +kernel
theorem d_MD_file_33 : decode b_MD_file 33 = .ok (.iload_n 1, 1) := by decide +kernel
theorem d_MD_file_34 : decode b_MD_file 34 = .ok (.iaload, 1) := by decide +kernel
theorem d_MD_file_35 : decode b_MD_file 35 = .ok (.iload_n 2, 1) := by decide +kernel
theorem d_MD_file_36 : decode b_MD_file 36 = .ok (.ishr, 1) := by decide +kernel
theorem d_MD_file_37 : decode b_MD_file 37 = .ok (.iconst 1, 1) := by decide +kernel
theorem d_MD_file_38 : decode b_MD_file 38 = .ok (.iand, 1) := by decide +kernel
theorem d_MD_file_39 : decode b_MD_file 39 = .ok (.iconst 1, 1) := by decide +kernel
theorem d_MD_file_40 : decode b_MD_file 40 = .ok (.if_icmp .ne 7, 3) := by decide +kernel
theorem d_MD_file_43 : decode b_MD_file 43 = .ok (.iconst 2, 1) := by decide +kernel
theorem d_MD_file_44 : decode b_MD_file 44 = .ok (.goto 4, 3) := by decide +kernel
theorem d_MD_file_47 : decode b_MD_file 47 = .ok (.iconst 0, 1) := by decide +kernel
theorem d_MD_file_48 : decode b_MD_file 48 = .ok (.putfield 7, 3) := by decide +kernel
theorem d_MD_file_51 : decode b_MD_file 51 = .ok (.aload_n 0, 1) := by decide +kernel
theorem d_MD_file_52 : decode b_MD_file 52 = .ok (.getfield 7, 3) := by decide +kernel
theorem d_MD_file_55 : decode b_MD_file 55 = .ok (.ifCond .eq 4, 3) := by decide +kernel
theorem d_MD_file_58 : decode b_MD_file 58 = .ok (.return_, 1) := by decide +kernel
theorem d_MD_file_59 : decode b_MD_file 59 = .ok (.aload_n 0, 1) := by decide +kernel
theorem d_MD_file_60 : decode b_MD_file 60 = .ok (.getfield 64, 3) := by decide +kernel
theorem d_MD_file_63 : decode b_MD_file 63 = .ok (.bipush 6, 2) := by decide +kernel
theorem d_MD_file_65 : decode b_MD_file 65 = .ok (.iload_n 1, 1) := by decide +kernel
theorem d_MD_file_66 : decode b_MD_file 66 = .ok (.imul, 1) := by decide +kernel
theorem d_MD_file_67 : decode b_MD_file 67 = .ok (.iload_n 2, 1) := by decide +kernel
theorem d_MD_file_68 : decode b_MD_file 68 = .ok (.iadd, 1) := by decide +kernel
theorem d_MD_file_69 : decode b_MD_file 69 = .ok (.lload_n 3, 1) := by decide +kernel
theorem d_MD_file_70 : decode b_MD_file 70 = .ok (.lastore, 1) := by decide +kernel
theorem d_MD_file_71 : decode b_MD_file 71 = .ok (.aload_n 0, 1) := by decide +kernel
theorem d_MD_file_72 : decode b_MD_file 72 = .ok (.getfield 67, 3) := by decide +kernel
theorem d_MD_file_75 : decode b_MD_file 75 = .ok (.bipush 6, 2) := by decide +kernel
theorem d_MD_file_77 : decode b_MD_file 77 = .ok (.iload_n 1, 1) := by decide +kernel
theorem d_MD_file_78 : decode b_MD_file 78 = .ok (.imul, 1) := by decide +kernel
theorem d_MD_file_79 : decode b_MD_file 79 = .ok (.iload_n 2, 1) := by decide +kernel
theorem d_MD_file_80 : decode b_MD_file 80 = .ok (.iadd, 1) := by decide +kernel
theorem d_MD_file_81 : decode b_MD_file 81 = .ok (.iload 5, 2) := by decide +kernel
theorem d_MD_file_83 : decode b_MD_file 83 = .ok (.iastore, 1) := by decide +kernel
theorem d_MD_file_84 : decode b_MD_file 84 = .ok (.aload_n 0, 1) := by decide +kernel
theorem d_MD_file_85 : decode b_MD_file 85 = .ok (.getfield 70, 3) := by decide +kernel
theorem d_MD_file_88 : decode b_MD_file 88 = .ok (.bipush 6, 2) := by decide +kernel
theorem d_MD_file_90 : decode b_MD_file 90 = .ok (.iload_n 1, 1) := by decide +kernel
theorem d_MD_file_91 : decode b_MD_file 91 = .ok (.imul, 1) := by decide +kernel
theorem d_MD_file_92 : decode b_MD_file 92 = .ok (.iload_n 2, 1) := by decide +kernel
theorem d_MD_file_93 : decode b_MD_file 93 = .ok (.iadd, 1) := by decide +kernel
theorem d_MD_file_94 : decode b_MD_file 94 = .ok (.lload 6, 2) := by decide +kernel
theorem d_MD_file_96 : decode b_MD_file 96 = .ok (.lastore, 1) := by decide +kernel
theorem d_MD_file_97 : decode b_MD_file 97 = .ok (.aload_n 0, 1) := by decide +kernel
theorem d_MD_file_98 : decode b_MD_file 98 = .ok (.getfield 55, 3) := by decide +kernel
theorem d_MD_file_101 : decode b_MD_file 101 = .ok (.iload_n 1, 1) := by decide +kernel
theorem d_MD_file_102 : decode b_MD_file 102 = .ok (.aload_n 0, 1) := by decide +kernel
theorem d_MD_file_103 : decode b_MD_file 103 = .ok (.getfield 55, 3) := by decide +kernel
theorem d_MD_file_106 : decode b_MD_file 106 = .ok (.iload_n 1, 1) := by decide +kernel
theorem d_MD_file_107 : decode b_MD_file 107 = .ok (.iaload, 1) := by decide +kernel
theorem d_MD_file_108 : decode b_MD_file 108 = .ok (.iconst 1, 1) := by decide +kernel
theorem d_MD_file_109 : decode b_MD_file 109 = .ok (.iload_n 2, 1) := by decide +kernel
theorem d_MD_file_110 : decode b_MD_file 110 = .ok (.ishl, 1) := by decide +kernel
theorem d_MD_file_111 : decode b_MD_file 111 = .ok (.ior, 1) := by decide +kernel
theorem d_MD_file_112 : decode b_MD_file 112 = .ok (.iastore, 1) := by decide +kernel
theorem d_MD_file_113 : decode b_MD_file 113 = .ok (.return_, 1) := by decide +kernel
theorem d_MD_partial_0 : decode b_MD_partial 0 = .ok (.aload_n 0, 1) := by decide +kernel
theorem d_MD_partial_1 : decode b_MD_partial 1 = .ok (.aload_n 0, 1) := by decide +kernel
theorem d_MD_partial_2 : decode b_MD_partial 2 = .ok (.iload_n 1, 1) := by decide +kernel
theorem d_MD_partial_3 : decode b_MD_partial 3 = .ok (.invokevirtual 142, 3) := by decide +kernel
theorem d_MD_partial_6 : decode b_MD_partial 6 = .ok (.ifCond .eq 23, 3) := by decide +kernel
theorem d_MD_partial_9 : decode b_MD_partial 9 = .ok (.iload_n 2, 1) := by decide +kernel
theorem d_MD_partial_10 : decode b_MD_partial 10 = .ok (.invokestatic 145, 3) := by decide +kernel
theorem d_MD_partial_13 : decode b_MD_partial 13 = .ok (.ifCond .eq 16, 3) := by decide +kernel
theorem d_MD_partial_16 : decode b_MD_partial 16 = .ok (.aload_n 0, 1) := by decide +kernel
theorem d_MD_partial_17 : decode b_MD_partial 17 = .ok (.getfield 55, 3) := by decide +kernel
theorem d_MD_partial_20 : decode b_MD_partial 20 = .ok (.iload_n 1, 1) := by decide +kernel
theorem d_MD_partial_21 : decode b_MD_partial 21 = .ok (.iaload, 1) := by decide +kernel
theorem d_MD_partial_22 : decode b_MD_partial 22 = .ok (.iload_n 2, 1) := by decide +kernel
theorem d_MD_partial_23 : decode b_MD_partial 23 = .ok (.ishr, 1) := by decide +kernel
theorem d_MD_partial_24 : decode b_MD_partial 24 = .ok (.iconst 1, 1) := by decide +kernel
theorem d_MD_partial_25 : decode b_MD_partial 25 = .ok (.iand, 1) := by decide +kernel
theorem d_MD_partial_26 : decode b_MD_partial 26 = .ok (.ifCond .ne 7, 3) := by decide +kernel
theorem d_MD_partial_29 : decode b_MD_partial 29 = .ok (.iconst 1, 1) := by decide +kernel
theorem d_MD_partial_30 : decode b_MD_partial 30 = .ok (.goto 17, 3) := by decide +kernel
theorem d_MD_partial_33 : decode b_MD_partial 33 = .ok (.iload_n 3, 1) := by decide +kernel
theorem d_MD_partial_34 : decode b_MD_partial 34 = .ok (.ifCond .lt 8, 3) := by decide +kernel
theorem d_MD_partial_37 : decode b_MD_partial 37 = .ok (.iload_n 3, 1) := by decide +kernel
theorem d_MD_partial_38 : decode b_MD_partial 38 = .ok (.iconst 2, 1) := by decide +kernel
theorem d_MD_partial_39 : decode b_MD_partial 39 = .ok (.if_icmp .le 7, 3) := by decide +kernel
theorem d_MD_partial_42 : decode b_MD_partial 42 = .ok (.iconst 2, 1) := by decide +kernel
theorem d_MD_partial_43 : decode b_MD_partial 43 = .ok (.goto 4, 3) := by decide +kernel
theorem d_MD_partial_46 : decode b_MD_partial 46 = .ok (.iconst 0, 1) := by decide +kernel
theorem d_MD_partial_47 : decode b_MD_partial 47 = .ok (.putfield 7, 3) := by decide +kernel
theorem d_MD_partial_50 : decode b_MD_partial 50 = .ok (.aload_n 0, 1) := by decide +kernel
theorem d_MD_partial_51 : decode b_MD_partial 51 = .ok (.getfield 7, 3) := by decide +kernel
theorem d_MD_partial_54 : decode b_MD_partial 54 = .ok (.ifCond .eq 5, 3) := by decide +kernel
theorem d_MD_partial_57 : decode b_MD_partial 57 = .ok (.lconst 0, 1) := by decide +kernel
theorem d_MD_partial_58 : decode b_MD_partial 58 = .ok (.lreturn, 1) := by decide +kernel
theorem d_MD_partial_59 : decode b_MD_partial 59 = .ok (.bipush 6, 2) := by decide +kernel
theorem d_MD_partial_61 : decode b_MD_partial 61 = .ok (.iload_n 1, 1) := by decide +kernel
theorem d_MD_partial_62 : decode b_MD_partial 62 = .ok (.imul, 1) := by decide +kernel
theorem d_MD_partial_63 : decode b_MD_partial 63 = .ok (.iload_n 2, 1) := by decide +kernel
theorem d_MD_partial_64 : decode b_MD_partial 64 = .ok (.iadd, 1) := by decide +kernel
theorem d_MD_partial_65 : decode b_MD_partial 65 = .ok (.istore 4, 2) := by decide +kernel
theorem d_MD_partial_67 : decode b_MD_partial 67 = .ok (.iload_n 3, 1) := by decide +kernel
theorem d_MD_partial_68 : decode b_MD_partial 68 = .ok (.ifCond .ne 13, 3) := by decide +kernel
theorem d_MD_partial_71 : decode b_MD_partial 71 = .ok (.aload_n 0, 1) := by decide +kernel
theorem d_MD_partial_72 : decode b_MD_partial 72 = .ok (.getfield 64, 3) := by decide +kernel
theorem d_MD_partial_75 : decode b_MD_partial 75 = .ok (.iload 4, 2) := by decide +kernel
theorem d_MD_partial_77 : decode b_MD_partial 77 = .ok (.laload, 1) := by decide +kernel
theorem d_MD_partial_78 : decode b_MD_partial 78 = .ok (.goto 26, 3) := by decide +kernel
theorem d_MD_partial_81 : decode b_MD_partial 81 = .ok (.iload_n 3, 1) := by decide +kernel
theorem d_MD_partial_82 : decode b_MD_partial 82 = .ok (.iconst 1, 1) := by decide +kernel
theorem d_MD_partial_83 : decode b_MD_partial 83 = .ok (.if_icmp .ne 14, 3) := by decide +kernel
theorem d_MD_partial_86 : decode b_MD_partial 86 = .ok (.aload_n 0, 1) := by decide +kernel
theorem d_MD_partial_87 : decode b_MD_partial 87 = .ok (.getfield 67, 3) := by decide +kernel
theorem d_MD_partial_90 : decode b_MD_partial 90 = .ok (.iload 4, 2) := by decide +kernel
theorem d_MD_partial_92 : decode b_MD_partial 92 = .ok (.iaload, 1) := by decide +kernel
theorem d_MD_partial_93 : decode b_MD_partial 93 = .ok (.i2l, 1) := by decide +kernel
theorem d_MD_partial_94 : decode b_MD_partial 94 = .ok (.goto 10, 3) := by decide +kernel
theorem d_MD_partial_97 : decode b_MD_partial 97 = .ok (.aload_n 0, 1) := by decide +kernel
theorem d_MD_partial_98 : decode b_MD_partial 98 = .ok (.getfield 70, 3) := by decide +kernel
theorem d_MD_partial_101 : decode b_MD_partial 101 = .ok (.iload 4, 2) := by decide +kernel
theorem d_MD_partial_103 : decode b_MD_partial 103 = .ok (.laload, 1) := by decide +kernel
theorem d_MD_partial_104 : decode b_MD_partial 104 = .ok (.lreturn, 1) := by decide +kernel
theorem d_MD_notGood_0 : decode b_MD_notGood 0 = .ok (.iconst 0, 1) := by decide +kernel
theorem d_MD_notGood_1 : decode b_MD_notGood 1 = .ok (.istore_n 2, 1) := by decide +kernel
theorem d_MD_notGood_2 : decode b_MD_notGood 2 = .ok (.iconst 0, 1) := by decide +kernel
theorem d_MD_notGood_3 : decode b_MD_notGood 3 = .ok (.istore_n 3, 1) := by decide +kernel
theorem d_MD_notGood_4 : decode b_MD_notGood 4 = .ok (.iload_n 3, 1) := by decide +kernel
theorem d_MD_notGood_5 : decode b_MD_notGood 5 = .ok (.bipush 6, 2) := by decide +kernel
theorem d_MD_notGood_7 : decode b_MD_notGood 7 = .ok (.if_icmp .ge 38, 3) := by decide +kernel
theorem d_MD_notGood_10 : decode b_MD_notGood 10 = .ok (.aload_n 0, 1) := by decide +kernel
theorem d_MD_notGood_11 : decode b_MD_notGood 11 = .ok (.getfield 55, 3) := by decide +kernel
theorem d_MD_notGood_14 : decode b_MD_notGood 14 = .ok (.iload_n 1, 1) := by decide +kernel
theorem d_MD_notGood_15 : decode b_MD_notGood 15 = .ok (.iaload, 1) := by decide +kernel
theorem d_MD_notGood_16 : decode b_MD_notGood 16 = .ok (.iload_n 3, 1) := by decide +kernel
theorem d_MD_notGood_17 : decode b_MD_notGood 17 = .ok (.ishr, 1) := by decide +kernel
theorem d_MD_notGood_18 : decode b_MD_notGood 18 = .ok (.iconst 1, 1) := by decide +kernel
theorem d_MD_notGood_19 : decode b_MD_notGood 19 = .ok (.iand, 1) := by decide +kernel
theorem d_MD_notGood_20 : decode b_MD_notGood 20 = .ok (.iconst 1, 1) := by decide +kernel
theorem d_MD_notGood_21 : decode b_MD_notGood 21 = .ok (.if_icmp .ne 18, 3) := by decide +kernel
theorem d_MD_notGood_24 : decode b_MD_notGood 24 = .ok (.aload_n 0, 1) := by decide +kernel
theorem d_MD_notGood_25 : decode b_MD_notGood 25 = .ok (.iload_n 1, 1) := by decide +kernel
theorem d_MD_notGood_26 : decode b_MD_notGood 26 = .ok (.iload_n 3, 1) := by decide +kernel
theorem d_MD_notGood_27 : decode b_MD_notGood 27 = .ok (.invokevirtual 160, 3) := by decide +kernel
theorem d_MD_notGood_30 : decode b_MD_notGood 30 = .ok (.ifCond .ne 9, 3) := by decide +kernel
theorem d_MD_notGood_33 : decode b_MD_notGood 33 = .ok (.iload_n 2, 1) := by decide +kernel
theorem d_MD_notGood_34 : decode b_MD_notGood 34 = .ok (.iconst 1, 1) := by decide +kernel
theorem d_MD_notGood_35 : decode b_MD_notGood 35 = .ok (.iload_n 3, 1) := by decide +kernel
theorem d_MD_notGood_36 : decode b_MD_notGood 36 = .ok (.ishl, 1) := by decide +kernel
theorem d_MD_notGood_37 : decode b_MD_notGood 37 = .ok (.ior, 1) := by decide +kernel
theorem d_MD_notGood_38 : decode b_MD_notGood 38 = .ok (.istore_n 2, 1) := by decide +kernel
theorem d_MD_notGood_39 : decode b_MD_notGood 39 = .ok (.iinc 3 1, 3) := by decide +kernel
theorem d_MD_notGood_42 : decode b_MD_notGood 42 = .ok (.goto (-38), 3) := by decide +kernel
theorem d_MD_notGood_45 : decode b_MD_notGood 45 = .ok (.iload_n 2, 1) := by decide +kernel
theorem d_MD_notGood_46 : decode b_MD_notGood 46 = .ok (.ireturn, 1) := by decide +kernel
theorem d_MD_bad_0 : decode b_MD_bad 0 = .ok (.aload_n 0, 1) := by decide +kernel
theorem d_MD_bad_1 : decode b_MD_bad 1 = .ok (.aload_n 0, 1) := by decide +kernel
theorem d_MD_bad_2 : decode b_MD_bad 2 = .ok (.iload_n 1, 1) := by decide +kernel
theorem d_MD_bad_3 : decode b_MD_bad 3 = .ok (.invokevirtual 142, 3) := by decide +kernel
theorem d_MD_bad_6 : decode b_MD_bad 6 = .ok (.ifCond .eq 7, 3) := by decide +kernel
theorem d_MD_bad_9 : decode b_MD_bad 9 = .ok (.iconst 0, 1) := by decide +kernel
theorem d_MD_bad_10 : decode b_MD_bad 10 = .ok (.goto 4, 3) := by decide +kernel
theorem d_MD_bad_13 : decode b_MD_bad 13 = .ok (.iconst 1, 1) := by decide +kernel
theorem d_MD_bad_14 : decode b_MD_bad 14 = .ok (.putfield 7, 3) := by decide +kernel
theorem d_MD_bad_17 : decode b_MD_bad 17 = .ok (.aload_n 0, 1) := by decide +kernel
theorem d_MD_bad_18 : decode b_MD_bad 18 = .ok (.getfield 7, 3) := by decide +kernel
theorem d_MD_bad_21 : decode b_MD_bad 21 = .ok (.ifCond .eq 7, 3) := by decide +kernel
theorem d_MD_bad_24 : decode b_MD_bad 24 = .ok (.iconst 0, 1) := by decide +kernel
theorem d_MD_bad_25 : decode b_MD_bad 25 = .ok (.goto 8, 3) := by decide +kernel
theorem d_MD_bad_28 : decode b_MD_bad 28 = .ok (.aload_n 0, 1) := by decide +kernel
theorem d_MD_bad_29 : decode b_MD_bad 29 = .ok (.iload_n 1, 1) := by decide +kernel
theorem d_MD_bad_30 : decode b_MD_bad 30 = .ok (.invokevirtual 163, 3) := by decide +kernel
theorem d_MD_bad_33 : decode b_MD_bad 33 = .ok (.ireturn, 1) := by decide +kernel
theorem d_MD_join_0 : decode b_MD_join 0 = .ok (.aload_n 0, 1) := by decide +kernel
theorem d_MD_join_1 : decode b_MD_join 1 = .ok (.aload_n 0, 1) := by decide +kernel
theorem d_MD_join_2 : decode b_MD_join 2 = .ok (.iload_n 1, 1) := by decide +kernel
theorem d_MD_join_3 : decode b_MD_join 3 = .ok (.invokevirtual 142, 3) := by decide +kernel
theorem d_MD_join_6 : decode b_MD_join 6 = .ok (.ifCond .ne 7, 3) := by decide +kernel
theorem d_MD_join_9 : decode b_MD_join 9 = .ok (.iconst 1, 1) := by decide +kernel
theorem d_MD_join_10 : decode b_MD_join 10 = .ok (.goto 64, 3) := by decide +kernel
theorem d_MD_join_13 : decode b_MD_join 13 = .ok (.aload_n 0, 1) := by decide +kernel
theorem d_MD_join_14 : decode b_MD_join 14 = .ok (.getfield 48, 3) := by decide +kernel
theorem d_MD_join_17 : decode b_MD_join 17 = .ok (.iload_n 1, 1) := by decide +kernel
theorem d_MD_join_18 : decode b_MD_join 18 = .ok (.iaload, 1) := by decide +kernel
theorem d_MD_join_19 : decode b_MD_join 19 = .ok (.ifCond .eq 7, 3) := by decide +kernel
theorem d_MD_join_22 : decode b_MD_join 22 = .ok (.iconst 2, 1) := by decide +kernel
theorem d_MD_join_23 : decode b_MD_join 23 = .ok (.goto 51, 3) := by decide +kernel
theorem d_MD_join_26 : decode b_MD_join 26 = .ok (.aload_n 0, 1) := by decide +kernel
theorem d_MD_join_27 : decode b_MD_join 27 = .ok (.getfield 51, 3) := by decide +kernel
theorem d_MD_join_30 : decode b_MD_join 30 = .ok (.iload_n 1, 1) := by decide +kernel
theorem d_MD_join_31 : decode b_MD_join 31 = .ok (.laload, 1) := by decide +kernel
theorem d_MD_join_32 : decode b_MD_join 32 = .ok (.aload_n 0, 1) := by decide +kernel
theorem d_MD_join_33 : decode b_MD_join 33 = .ok (.getfield 13, 3) := by decide +kernel
theorem d_MD_join_36 : decode b_MD_join 36 = .ok (.invokestatic 126, 3) := by decide +kernel
theorem d_MD_join_39 : decode b_MD_join 39 = .ok (.lconst 1, 1) := by decide +kernel
theorem d_MD_join_40 : decode b_MD_join 40 = .ok (.lcmp, 1) := by decide +kernel
theorem d_MD_join_41 : decode b_MD_join 41 = .ok (.ifCond .eq 7, 3) := by decide +kernel
theorem d_MD_join_44 : decode b_MD_join 44 = .ok (.iconst 3, 1) := by decide +kernel
theorem d_MD_join_45 : decode b_MD_join 45 = .ok (.goto 29, 3) := by decide +kernel
theorem d_MD_join_48 : decode b_MD_join 48 = .ok (.aload_n 0, 1) := by decide +kernel
theorem d_MD_join_49 : decode b_MD_join 49 = .ok (.getfield 55, 3) := by decide +kernel
theorem d_MD_join_52 : decode b_MD_join 52 = .ok (.iload_n 1, 1) := by decide +kernel
theorem d_MD_join_53 : decode b_MD_join 53 = .ok (.iaload, 1) := by decide +kernel
theorem d_MD_join_54 : decode b_MD_join 54 = .ok (.aload_n 0, 1) := by decide +kernel
theorem d_MD_join_55 : decode b_MD_join 55 = .ok (.iload_n 1, 1) := by decide +kernel
theorem d_MD_join_56 : decode b_MD_join 56 = .ok (.invokevirtual 163, 3) := by decide +kernel
theorem d_MD_join_59 : decode b_MD_join 59 = .ok (.iconst (-1), 1) := by decide +kernel
theorem d_MD_join_60 : decode b_MD_join 60 = .ok (.ixor, 1) := by decide +kernel
theorem d_MD_join_61 : decode b_MD_join 61 = .ok (.iand, 1) := by decide +kernel
theorem d_MD_join_62 : decode b_MD_join 62 = .ok (.invokestatic 156, 3) := by decide +kernel
theorem d_MD_join_65 : decode b_MD_join 65 = .ok (.iconst 3, 1) := by decide +kernel
theorem d_MD_join_66 : decode b_MD_join 66 = .ok (.if_icmp .ge 7, 3) := by decide +kernel
theorem d_MD_join_69 : decode b_MD_join 69 = .ok (.iconst 2, 1) := by decide +kernel
theorem d_MD_join_70 : decode b_MD_join 70 = .ok (.goto 4, 3) := by decide +kernel
theorem d_MD_join_73 : decode b_MD_join 73 = .ok (.iconst 0, 1) := by decide +kernel
theorem d_MD_join_74 : decode b_MD_join 74 = .ok (.putfield 7, 3) := by decide +kernel
theorem d_MD_join_77 : decode b_MD_join 77 = .ok (.aload_n 0, 1) := by decide +kernel
theorem d_MD_join_78 : decode b_MD_join 78 = .ok (.getfield 7, 3) := by decide +kernel
theorem d_MD_join_81 : decode b_MD_join 81 = .ok (.ifCond .eq 5, 3) := by decide +kernel
theorem d_MD_join_84 : decode b_MD_join 84 = .ok (.lconst 0, 1) := by decide +kernel
theorem d_MD_join_85 : decode b_MD_join 85 = .ok (.lreturn, 1) := by decide +kernel
theorem d_MD_join_86 : decode b_MD_join 86 = .ok (.aload_n 0, 1) := by decide +kernel
theorem d_MD_join_87 : decode b_MD_join 87 = .ok (.getfield 61, 3) := by decide +kernel
theorem d_MD_join_90 : decode b_MD_join 90 = .ok (.iload_n 1, 1) := by decide +kernel
theorem d_MD_join_91 : decode b_MD_join 91 = .ok (.aload_n 0, 1) := by decide +kernel
theorem d_MD_join_92 : decode b_MD_join 92 = .ok (.getfield 51, 3) := by decide +kernel
theorem d_MD_join_95 : decode b_MD_join 95 = .ok (.iload_n 1, 1) := by decide +kernel
theorem d_MD_join_96 : decode b_MD_join 96 = .ok (.laload, 1) := by decide +kernel
theorem d_MD_join_97 : decode b_MD_join 97 = .ok (.ldc2_w 137, 3) := by decide +kernel
theorem d_MD_join_100 : decode b_MD_join 100 = .ok (.ldc2_w 107, 3) := by decide +kernel
theorem d_MD_join_103 : decode b_MD_join 103 = .ok (.aload_n 0, 1) := by decide +kernel
theorem d_MD_join_104 : decode b_MD_join 104 = .ok (.getfield 17, 3) := by decide +kernel
theorem d_MD_join_107 : decode b_MD_join 107 = .ok (.lmul, 1) := by decide +kernel
theorem d_MD_join_108 : decode b_MD_join 108 = .ok (.invokestatic 131, 3) := by decide +kernel
theorem d_MD_join_111 : decode b_MD_join 111 = .ok (.aload_n 0, 1) := by decide +kernel
theorem d_MD_join_112 : decode b_MD_join 112 = .ok (.getfield 13, 3) := by decide +kernel
theorem d_MD_join_115 : decode b_MD_join 115 = .ok (.invokestatic 96, 3) := by decide +kernel
theorem d_MD_join_118 : decode b_MD_join 118 = .ok (.lastore, 1) := by decide +kernel
theorem d_MD_join_119 : decode b_MD_join 119 = .ok (.aload_n 0, 1) := by decide +kernel
theorem d_MD_join_120 : decode b_MD_join 120 = .ok (.getfield 48, 3) := by decide +kernel
theorem d_MD_join_123 : decode b_MD_join 123 = .ok (.iload_n 1, 1) := by decide +kernel
theorem d_MD_join_124 : decode b_MD_join 124 = .ok (.iconst 1, 1) := by decide +kernel
theorem d_MD_join_125 : decode b_MD_join 125 = .ok (.iastore, 1) := by decide +kernel
theorem d_MD_join_126 : decode b_MD_join 126 = .ok (.aload_n 0, 1) := by decide +kernel
theorem d_MD_join_127 : decode b_MD_join 127 = .ok (.getfield 76, 3) := by decide +kernel
theorem d_MD_join_130 : decode b_MD_join 130 = .ok (.aload_n 0, 1) := by decide +kernel
theorem d_MD_join_131 : decode b_MD_join 131 = .ok (.getfield 73, 3) := by decide +kernel
theorem d_MD_join_134 : decode b_MD_join 134 = .ok (.iload_n 1, 1) := by decide +kernel
theorem d_MD_join_135 : decode b_MD_join 135 = .ok (.iastore, 1) := by decide +kernel
theorem d_MD_join_136 : decode b_MD_join 136 = .ok (.aload_n 0, 1) := by decide +kernel
theorem d_MD_join_137 : decode b_MD_join 137 = .ok (.dup, 1) := by decide +kernel
theorem d_MD_join_138 : decode b_MD_join 138 = .ok (.getfield 73, 3) := by decide +kernel
theorem d_MD_join_141 : decode b_MD_join 141 = .ok (.iconst 1, 1) := by decide +kernel
theorem d_MD_join_142 : decode b_MD_join 142 = .ok (.iadd, 1) := by decide +kernel
theorem d_MD_join_143 : decode b_MD_join 143 = .ok (.putfield 73, 3) := by decide +kernel
theorem d_MD_join_146 : decode b_MD_join 146 = .ok (.aload_n 0, 1) := by decide +kernel
theorem d_MD_join_147 : decode b_MD_join 147 = .ok (.getfield 61, 3) := by decide +kernel
theorem d_MD_join_150 : decode b_MD_join 150 = .ok (.iload_n 1, 1) := by decide +kernel
theorem d_MD_join_151 : decode b_MD_join 151 = .ok (.laload, 1) := by decide +kernel
theorem d_MD_join_152 : decode b_MD_join 152 = .ok (.lreturn, 1) := by decide +kernel
theorem d_MD_verify_0 : decode b_MD_verify 0 = .ok (.aload_n 0, 1) := by decide +kernel
theorem d_MD_verify_1 : decode b_MD_verify 1 = .ok (.aload_n 0, 1) := by decide +kernel
theorem d_MD_verify_2 : decode b_MD_verify 2 = .ok (.getfield 13, 3) := by decide +kernel
theorem d_MD_verify_5 : decode b_MD_verify 5 = .ok (.lconst 0, 1) := by decide +kernel
theorem d_MD_verify_6 : decode b_MD_verify 6 = .ok (.lcmp, 1) := by decide +kernel
theorem d_MD_verify_7 : decode b_MD_verify 7 = .ok (.ifCond .eq 10, 3) := by decide +kernel
theorem d_MD_verify_10 : decode b_MD_verify 10 = .ok (.aload_n 0, 1) := by decide +kernel
theorem d_MD_verify_11 : decode b_MD_verify 11 = .ok (.getfield 42, 3) := by decide +kernel
theorem d_MD_verify_14 : decode b_MD_verify 14 = .ok (.ifCond .ne 7, 3) := by decide +kernel
theorem d_MD_verify_17 : decode b_MD_verify 17 = .ok (.iconst 1, 1) := by decide +kernel
theorem d_MD_verify_18 : decode b_MD_verify 18 = .ok (.goto 4, 3) := by decide +kernel
theorem d_MD_verify_21 : decode b_MD_verify 21 = .ok (.iconst 0, 1) := by decide +kernel
theorem d_MD_verify_22 : decode b_MD_verify 22 = .ok (.putfield 7, 3) := by decide +kernel
theorem d_MD_verify_25 : decode b_MD_verify 25 = .ok (.aload_n 0, 1) := by decide +kernel
theorem d_MD_verify_26 : decode b_MD_verify 26 = .ok (.getfield 7, 3) := by decide +kernel
theorem d_MD_verify_29 : decode b_MD_verify 29 = .ok (.ifCond .ne 41, 3) := by decide +kernel
theorem d_MD_verify_32 : decode b_MD_verify 32 = .ok (.lload_n 1, 1) := by decide +kernel
theorem d_MD_verify_33 : decode b_MD_verify 33 = .ok (.lconst 0, 1) := by decide +kernel
theorem d_MD_verify_34 : decode b_MD_verify 34 = .ok (.lcmp, 1) := by decide +kernel
theorem d_MD_verify_35 : decode b_MD_verify 35 = .ok (.ifCond .lt 35, 3) := by decide +kernel
theorem d_MD_verify_38 : decode b_MD_verify 38 = .ok (.lload_n 1, 1) := by decide +kernel
theorem d_MD_verify_39 : decode b_MD_verify 39 = .ok (.aload_n 0, 1) := by decide +kernel
theorem d_MD_verify_40 : decode b_MD_verify 40 = .ok (.getfield 13, 3) := by decide +kernel
theorem d_MD_verify_43 : decode b_MD_verify 43 = .ok (.lcmp, 1) := by decide +kernel
theorem d_MD_verify_44 : decode b_MD_verify 44 = .ok (.ifCond .ge 26, 3) := by decide +kernel
theorem d_MD_verify_47 : decode b_MD_verify 47 = .ok (.lload_n 1, 1) := by decide +kernel
theorem d_MD_verify_48 : decode b_MD_verify 48 = .ok (.ldc2_w 137, 3) := by decide +kernel
theorem d_MD_verify_51 : decode b_MD_verify 51 = .ok (.aload_n 0, 1) := by decide +kernel
theorem d_MD_verify_52 : decode b_MD_verify 52 = .ok (.getfield 13, 3) := by decide +kernel
theorem d_MD_verify_55 : decode b_MD_verify 55 = .ok (.invokestatic 96, 3) := by decide +kernel
theorem d_MD_verify_58 : decode b_MD_verify 58 = .ok (.aload_n 0, 1) := by decide +kernel
theorem d_MD_verify_59 : decode b_MD_verify 59 = .ok (.invokevirtual 139, 3) := by decide +kernel
theorem d_MD_verify_62 : decode b_MD_verify 62 = .ok (.lcmp, 1) := by decide +kernel
theorem d_MD_verify_63 : decode b_MD_verify 63 = .ok (.ifCond .ne 7, 3) := by decide +kernel
theorem d_MD_verify_66 : decode b_MD_verify 66 = .ok (.iconst 1, 1) := by decide +kernel
theorem d_MD_verify_67 : decode b_MD_verify 67 = .ok (.goto 4, 3) := by decide +kernel
theorem d_MD_verify_70 : decode b_MD_verify 70 = .ok (.iconst 0, 1) := by decide +kernel
theorem d_MD_verify_71 : decode b_MD_verify 71 = .ok (.ireturn, 1) := by decide +kernel
theorem d_MD_refresh_0 : decode b_MD_refresh 0 = .ok (.aload_n 0, 1) := by decide +kernel
theorem d_MD_refresh_1 : decode b_MD_refresh 1 = .ok (.iload_n 1, 1) := by decide +kernel
theorem d_MD_refresh_2 : decode b_MD_refresh 2 = .ok (.ifCond .lt 7, 3) := by decide +kernel
theorem d_MD_refresh_5 : decode b_MD_refresh 5 = .ok (.iload_n 2, 1) := by decide +kernel
theorem d_MD_refresh_6 : decode b_MD_refresh 6 = .ok (.ifCond .ge 7, 3) := by decide +kernel
theorem d_MD_refresh_9 : decode b_MD_refresh 9 = .ok (.iconst 1, 1) := by decide +kernel
theorem d_MD_refresh_10 : decode b_MD_refresh 10 = .ok (.goto 17, 3) := by decide +kernel
theorem d_MD_refresh_13 : decode b_MD_refresh 13 = .ok (.aload_n 0, 1) := by decide +kernel
theorem d_MD_refresh_14 : decode b_MD_refresh 14 = .ok (.getfield 13, 3) := by decide +kernel
theorem d_MD_refresh_17 : decode b_MD_refresh 17 = .ok (.lconst 0, 1) := by decide +kernel
theorem d_MD_refresh_18 : decode b_MD_refresh 18 = .ok (.lcmp, 1) := by decide +kernel
theorem d_MD_refresh_19 : decode b_MD_refresh 19 = .ok (.ifCond .ne 7, 3) := by decide +kernel
theorem d_MD_refresh_22 : decode b_MD_refresh 22 = .ok (.iconst 2, 1) := by decide +kernel
theorem d_MD_refresh_23 : decode b_MD_refresh 23 = .ok (.goto 4, 3) := by decide +kernel
theorem d_MD_refresh_26 : decode b_MD_refresh 26 = .ok (.iconst 0, 1) := by decide +kernel
theorem d_MD_refresh_27 : decode b_MD_refresh 27 = .ok (.putfield 7, 3) := by decide +kernel
theorem d_MD_refresh_30 : decode b_MD_refresh 30 = .ok (.aload_n 0, 1) := by decide +kernel
theorem d_MD_refresh_31 : decode b_MD_refresh 31 = .ok (.getfield 7, 3) := by decide +kernel
theorem d_MD_refresh_34 : decode b_MD_refresh 34 = .ok (.ifCond .eq 4, 3) := by decide +kernel
theorem d_MD_refresh_37 : decode b_MD_refresh 37 = .ok (.return_, 1) := by decide +kernel
theorem d_MD_refresh_38 : decode b_MD_refresh 38 = .ok (.aload_n 0, 1) := by decide +kernel
theorem d_MD_refresh_39 : decode b_MD_refresh 39 = .ok (.aload_n 0, 1) := by decide +kernel
theorem d_MD_refresh_40 : decode b_MD_refresh 40 = .ok (.getfield 23, 3) := by decide +kernel
theorem d_MD_refresh_43 : decode b_MD_refresh 43 = .ok (.iload_n 1, 1) := by decide +kernel
theorem d_MD_refresh_44 : decode b_MD_refresh 44 = .ok (.i2l, 1) := by decide +kernel
theorem d_MD_refresh_45 : decode b_MD_refresh 45 = .ok (.ladd, 1) := by decide +kernel
theorem d_MD_refresh_46 : decode b_MD_refresh 46 = .ok (.aload_n 0, 1) := by decide +kernel
theorem d_MD_refresh_47 : decode b_MD_refresh 47 = .ok (.getfield 17, 3) := by decide +kernel
theorem d_MD_refresh_50 : decode b_MD_refresh 50 = .ok (.lrem, 1) := by decide +kernel
theorem d_MD_refresh_51 : decode b_MD_refresh 51 = .ok (.putfield 23, 3) := by decide +kernel
theorem d_MD_refresh_54 : decode b_MD_refresh 54 = .ok (.aload_n 0, 1) := by decide +kernel
theorem d_MD_refresh_55 : decode b_MD_refresh 55 = .ok (.aload_n 0, 1) := by decide +kernel
theorem d_MD_refresh_56 : decode b_MD_refresh 56 = .ok (.getfield 26, 3) := by decide +kernel
theorem d_MD_refresh_59 : decode b_MD_refresh 59 = .ok (.iload_n 2, 1) := by decide +kernel
theorem d_MD_refresh_60 : decode b_MD_refresh 60 = .ok (.i2l, 1) := by decide +kernel
theorem d_MD_refresh_61 : decode b_MD_refresh 61 = .ok (.ladd, 1) := by decide +kernel
theorem d_MD_refresh_62 : decode b_MD_refresh 62 = .ok (.aload_n 0, 1) := by decide +kernel
theorem d_MD_refresh_63 : decode b_MD_refresh 63 = .ok (.getfield 17, 3) := by decide +kernel
theorem d_MD_refresh_66 : decode b_MD_refresh 66 = .ok (.lrem, 1) := by decide +kernel
theorem d_MD_refresh_67 : decode b_MD_refresh 67 = .ok (.putfield 26, 3) := by decide +kernel
theorem d_MD_refresh_70 : decode b_MD_refresh 70 = .ok (.aload_n 0, 1) := by decide +kernel
theorem d_MD_refresh_71 : decode b_MD_refresh 71 = .ok (.dup, 1) := by decide +kernel
theorem d_MD_refresh_72 : decode b_MD_refresh 72 = .ok (.getfield 32, 3) := by decide +kernel
theorem d_MD_refresh_75 : decode b_MD_refresh 75 = .ok (.iconst 1, 1) := by decide +kernel
theorem d_MD_refresh_76 : decode b_MD_refresh 76 = .ok (.iadd, 1) := by decide +kernel
theorem d_MD_refresh_77 : decode b_MD_refresh 77 = .ok (.putfield 32, 3) := by decide +kernel
theorem d_MD_refresh_80 : decode b_MD_refresh 80 = .ok (.iconst 0, 1) := by decide +kernel
theorem d_MD_refresh_81 : decode b_MD_refresh 81 = .ok (.istore_n 3, 1) := by decide +kernel
theorem d_MD_refresh_82 : decode b_MD_refresh 82 = .ok (.iload_n 3, 1) := by decide +kernel
theorem d_MD_refresh_83 : decode b_MD_refresh 83 = .ok (.aload_n 0, 1) := by decide +kernel
theorem d_MD_refresh_84 : decode b_MD_refresh 84 = .ok (.getfield 45, 3) := by decide +kernel
theorem d_MD_refresh_87 : decode b_MD_refresh 87 = .ok (.if_icmp .ge 25, 3) := by decide +kernel
theorem d_MD_refresh_90 : decode b_MD_refresh 90 = .ok (.aload_n 0, 1) := by decide +kernel
theorem d_MD_refresh_91 : decode b_MD_refresh 91 = .ok (.getfield 48, 3) := by decide +kernel
theorem d_MD_refresh_94 : decode b_MD_refresh 94 = .ok (.iload_n 3, 1) := by decide +kernel
theorem d_MD_refresh_95 : decode b_MD_refresh 95 = .ok (.iaload, 1) := by decide +kernel
theorem d_MD_refresh_96 : decode b_MD_refresh 96 = .ok (.ifCond .ne 10, 3) := by decide +kernel
theorem d_MD_refresh_99 : decode b_MD_refresh 99 = .ok (.aload_n 0, 1) := by decide +kernel
theorem d_MD_refresh_100 : decode b_MD_refresh 100 = .ok (.getfield 55, 3) := by decide +kernel
theorem d_MD_refresh_103 : decode b_MD_refresh 103 = .ok (.iload_n 3, 1) := by decide +kernel
theorem d_MD_refresh_104 : decode b_MD_refresh 104 = .ok (.iconst 0, 1) := by decide +kernel
theorem d_MD_refresh_105 : decode b_MD_refresh 105 = .ok (.iastore, 1) := by decide +kernel
theorem d_MD_refresh_106 : decode b_MD_refresh 106 = .ok (.iinc 3 1, 3) := by decide +kernel
theorem d_MD_refresh_109 : decode b_MD_refresh 109 = .ok (.goto (-27), 3) := by decide +kernel
theorem d_MD_refresh_112 : decode b_MD_refresh 112 = .ok (.return_, 1) := by decide +kernel
theorem d_MD_suspend_0 : decode b_MD_suspend 0 = .ok (.aload_n 0, 1) := by decide +kernel
theorem d_MD_suspend_1 : decode b_MD_suspend 1 = .ok (.iload_n 1, 1) := by decide +kernel
theorem d_MD_suspend_2 : decode b_MD_suspend 2 = .ok (.invokestatic 145, 3) := by decide +kernel
theorem d_MD_suspend_5 : decode b_MD_suspend 5 = .ok (.ifCond .ne 7, 3) := by decide +kernel
theorem d_MD_suspend_8 : decode b_MD_suspend 8 = .ok (.iconst 1, 1) := by decide +kernel
theorem d_MD_suspend_9 : decode b_MD_suspend 9 = .ok (.goto 17, 3) := by decide +kernel
theorem d_MD_suspend_12 : decode b_MD_suspend 12 = .ok (.aload_n 0, 1) := by decide +kernel
theorem d_MD_suspend_13 : decode b_MD_suspend 13 = .ok (.getfield 13, 3) := by decide +kernel
theorem d_MD_suspend_16 : decode b_MD_suspend 16 = .ok (.lconst 0, 1) := by decide +kernel
theorem d_MD_suspend_17 : decode b_MD_suspend 17 = .ok (.lcmp, 1) := by decide +kernel
theorem d_MD_suspend_18 : decode b_MD_suspend 18 = .ok (.ifCond .ne 7, 3) := by decide +kernel
theorem d_MD_suspend_21 : decode b_MD_suspend 21 = .ok (.iconst 2, 1) := by decide +kernel
theorem d_MD_suspend_22 : decode b_MD_suspend 22 = .ok (.goto 4, 3) := by decide +kernel
theorem d_MD_suspend_25 : decode b_MD_suspend 25 = .ok (.iconst 0, 1) := by decide +kernel
theorem d_MD_suspend_26 : decode b_MD_suspend 26 = .ok (.putfield 7, 3) := by decide +kernel
theorem d_MD_suspend_29 : decode b_MD_suspend 29 = .ok (.aload_n 0, 1) := by decide +kernel
theorem d_MD_suspend_30 : decode b_MD_suspend 30 = .ok (.getfield 7, 3) := by decide +kernel
theorem d_MD_suspend_33 : decode b_MD_suspend 33 = .ok (.ifCond .eq 5, 3) := by decide +kernel
theorem d_MD_suspend_36 : decode b_MD_suspend 36 = .ok (.iconst 0, 1) := by decide +kernel
theorem d_MD_suspend_37 : decode b_MD_suspend 37 = .ok (.ireturn, 1) := by decide +kernel
theorem d_MD_suspend_38 : decode b_MD_suspend 38 = .ok (.aload_n 0, 1) := by decide +kernel
theorem d_MD_suspend_39 : decode b_MD_suspend 39 = .ok (.getfield 35, 3) := by decide +kernel
theorem d_MD_suspend_42 : decode b_MD_suspend 42 = .ok (.iload_n 1, 1) := by decide +kernel
theorem d_MD_suspend_43 : decode b_MD_suspend 43 = .ok (.ishr, 1) := by decide +kernel
theorem d_MD_suspend_44 : decode b_MD_suspend 44 = .ok (.iconst 1, 1) := by decide +kernel
theorem d_MD_suspend_45 : decode b_MD_suspend 45 = .ok (.iand, 1) := by decide +kernel
theorem d_MD_suspend_46 : decode b_MD_suspend 46 = .ok (.iconst 1, 1) := by decide +kernel
theorem d_MD_suspend_47 : decode b_MD_suspend 47 = .ok (.if_icmp .ne 7, 3) := by decide +kernel
theorem d_MD_suspend_50 : decode b_MD_suspend 50 = .ok (.iconst 1, 1) := by decide +kernel
theorem d_MD_suspend_51 : decode b_MD_suspend 51 = .ok (.goto 4, 3) := by decide +kernel
theorem d_MD_suspend_54 : decode b_MD_suspend 54 = .ok (.iconst 0, 1) := by decide +kernel
theorem d_MD_suspend_55 : decode b_MD_suspend 55 = .ok (.istore_n 3, 1) := by decide +kernel
theorem d_MD_suspend_56 : decode b_MD_suspend 56 = .ok (.aload_n 0, 1) := by decide +kernel
theorem d_MD_suspend_57 : decode b_MD_suspend 57 = .ok (.iload_n 2, 1) := by decide +kernel
theorem d_MD_suspend_58 : decode b_MD_suspend 58 = .ok (.ifCond .eq 14, 3) := by decide +kernel
theorem d_MD_suspend_61 : decode b_MD_suspend 61 = .ok (.aload_n 0, 1) := by decide +kernel
theorem d_MD_suspend_62 : decode b_MD_suspend 62 = .ok (.getfield 35, 3) := by decide +kernel
theorem d_MD_suspend_65 : decode b_MD_suspend 65 = .ok (.iconst 1, 1) := by decide +kernel
theorem d_MD_suspend_66 : decode b_MD_suspend 66 = .ok (.iload_n 1, 1) := by decide +kernel
theorem d_MD_suspend_67 : decode b_MD_suspend 67 = .ok (.ishl, 1) := by decide +kernel
theorem d_MD_suspend_68 : decode b_MD_suspend 68 = .ok (.ior, 1) := by decide +kernel
theorem d_MD_suspend_69 : decode b_MD_suspend 69 = .ok (.goto 13, 3) := by decide +kernel
theorem d_MD_suspend_72 : decode b_MD_suspend 72 = .ok (.aload_n 0, 1) := by decide +kernel
theorem d_MD_suspend_73 : decode b_MD_suspend 73 = .ok (.getfield 35, 3) := by decide +kernel
theorem d_MD_suspend_76 : decode b_MD_suspend 76 = .ok (.iconst 1, 1) := by decide +kernel
theorem d_MD_suspend_77 : decode b_MD_suspend 77 = .ok (.iload_n 1, 1) := by decide +kernel
theorem d_MD_suspend_78 : decode b_MD_suspend 78 = .ok (.ishl, 1) := by decide +kernel
theorem d_MD_suspend_79 : decode b_MD_suspend 79 = .ok (.iconst (-1), 1) := by decide +kernel
theorem d_MD_suspend_80 : decode b_MD_suspend 80 = .ok (.ixor, 1) := by decide +kernel
theorem d_MD_suspend_81 : decode b_MD_suspend 81 = .ok (.iand, 1) := by decide +kernel
theorem d_MD_suspend_82 : decode b_MD_suspend 82 = .ok (.putfield 35, 3) := by decide +kernel
theorem d_MD_suspend_85 : decode b_MD_suspend 85 = .ok (.iload_n 3, 1) := by decide +kernel
theorem d_MD_suspend_86 : decode b_MD_suspend 86 = .ok (.iload_n 2, 1) := by decide +kernel
theorem d_MD_suspend_87 : decode b_MD_suspend 87 = .ok (.if_icmp .eq 7, 3) := by decide +kernel
theorem d_MD_suspend_90 : decode b_MD_suspend 90 = .ok (.iconst 1, 1) := by decide +kernel
theorem d_MD_suspend_91 : decode b_MD_suspend 91 = .ok (.goto 4, 3) := by decide +kernel
theorem d_MD_suspend_94 : decode b_MD_suspend 94 = .ok (.iconst 0, 1) := by decide +kernel
theorem d_MD_suspend_95 : decode b_MD_suspend 95 = .ok (.ireturn, 1) := by decide +kernel
theorem d_MD_parts_0 : decode b_MD_parts 0 = .ok (.aload_n 0, 1) := by decide +kernel
theorem d_MD_parts_1 : decode b_MD_parts 1 = .ok (.iload_n 1, 1) := by decide +kernel
theorem d_MD_parts_2 : decode b_MD_parts 2 = .ok (.ifCond .lt 17, 3) := by decide +kernel
theorem d_MD_parts_5 : decode b_MD_parts 5 = .ok (.iload_n 1, 1) := by decide +kernel
theorem d_MD_parts_6 : decode b_MD_parts 6 = .ok (.bipush 63, 2) := by decide +kernel
theorem d_MD_parts_8 : decode b_MD_parts 8 = .ok (.if_icmp .gt 11, 3) := by decide +kernel
theorem d_MD_parts_11 : decode b_MD_parts 11 = .ok (.iload_n 1, 1) := by decide +kernel
theorem d_MD_parts_12 : decode b_MD_parts 12 = .ok (.invokestatic 156, 3) := by decide +kernel
theorem d_MD_parts_15 : decode b_MD_parts 15 = .ok (.iconst 3, 1) := by decide +kernel
theorem d_MD_parts_16 : decode b_MD_parts 16 = .ok (.if_icmp .eq 7, 3) := by decide +kernel
theorem d_MD_parts_19 : decode b_MD_parts 19 = .ok (.iconst 1, 1) := by decide +kernel
theorem d_MD_parts_20 : decode b_MD_parts 20 = .ok (.goto 17, 3) := by decide +kernel
theorem d_MD_parts_23 : decode b_MD_parts 23 = .ok (.aload_n 0, 1) := by decide +kernel
theorem d_MD_parts_24 : decode b_MD_parts 24 = .ok (.getfield 13, 3) := by decide +kernel
theorem d_MD_parts_27 : decode b_MD_parts 27 = .ok (.lconst 0, 1) := by decide +kernel
theorem d_MD_parts_28 : decode b_MD_parts 28 = .ok (.lcmp, 1) := by decide +kernel
theorem d_MD_parts_29 : decode b_MD_parts 29 = .ok (.ifCond .ne 7, 3) := by decide +kernel
theorem d_MD_parts_32 : decode b_MD_parts 32 = .ok (.iconst 2, 1) := by decide +kernel
theorem d_MD_parts_33 : decode b_MD_parts 33 = .ok (.goto 4, 3) := by decide +kernel
theorem d_MD_parts_36 : decode b_MD_parts 36 = .ok (.iconst 0, 1) := by decide +kernel
theorem d_MD_parts_37 : decode b_MD_parts 37 = .ok (.putfield 7, 3) := by decide +kernel
theorem d_MD_parts_40 : decode b_MD_parts 40 = .ok (.aload_n 0, 1) := by decide +kernel
theorem d_MD_parts_41 : decode b_MD_parts 41 = .ok (.getfield 7, 3) := by decide +kernel
theorem d_MD_parts_44 : decode b_MD_parts 44 = .ok (.ifCond .eq 5, 3) := by decide +kernel
theorem d_MD_parts_47 : decode b_MD_parts 47 = .ok (.iconst 0, 1) := by decide +kernel
theorem d_MD_parts_48 : decode b_MD_parts 48 = .ok (.ireturn, 1) := by decide +kernel
theorem d_MD_parts_49 : decode b_MD_parts 49 = .ok (.lconst 0, 1) := by decide +kernel
theorem d_MD_parts_50 : decode b_MD_parts 50 = .ok (.lstore_n 2, 1) := by decide +kernel
theorem d_MD_parts_51 : decode b_MD_parts 51 = .ok (.iconst 0, 1) := by decide +kernel
theorem d_MD_parts_52 : decode b_MD_parts 52 = .ok (.istore 4, 2) := by decide +kernel
theorem d_MD_parts_54 : decode b_MD_parts 54 = .ok (.iload 4, 2) := by decide +kernel
theorem d_MD_parts_56 : decode b_MD_parts 56 = .ok (.bipush 6, 2) := by decide +kernel
theorem d_MD_parts_58 : decode b_MD_parts 58 = .ok (.if_icmp .ge 116, 3) := by decide +kernel
theorem d_MD_parts_61 : decode b_MD_parts 61 = .ok (.iload_n 1, 1) := by decide +kernel
theorem d_MD_parts_62 : decode b_MD_parts 62 = .ok (.iload 4, 2) := by decide +kernel
theorem d_MD_parts_64 : decode b_MD_parts 64 = .ok (.ishr, 1) := by decide +kernel
theorem d_MD_parts_65 : decode b_MD_parts 65 = .ok (.iconst 1, 1) := by decide +kernel
theorem d_MD_parts_66 : decode b_MD_parts 66 = .ok (.iand, 1) := by decide +kernel
theorem d_MD_parts_67 : decode b_MD_parts 67 = .ok (.iconst 1, 1) := by decide +kernel
theorem d_MD_parts_68 : decode b_MD_parts 68 = .ok (.if_icmp .ne 100, 3) := by decide +kernel
theorem d_MD_parts_71 : decode b_MD_parts 71 = .ok (.ldc2_w 166, 3) := by decide +kernel
theorem d_MD_parts_74 : decode b_MD_parts 74 = .ok (.lstore 5, 2) := by decide +kernel
theorem d_MD_parts_76 : decode b_MD_parts 76 = .ok (.lconst 1, 1) := by decide +kernel
theorem d_MD_parts_77 : decode b_MD_parts 77 = .ok (.lstore 7, 2) := by decide +kernel
theorem d_MD_parts_79 : decode b_MD_parts 79 = .ok (.iconst 0, 1) := by decide +kernel
theorem d_MD_parts_80 : decode b_MD_parts 80 = .ok (.istore 9, 2) := by decide +kernel
theorem d_MD_parts_82 : decode b_MD_parts 82 = .ok (.iload 9, 2) := by decide +kernel
theorem d_MD_parts_84 : decode b_MD_parts 84 = .ok (.bipush 6, 2) := by decide +kernel
theorem d_MD_parts_86 : decode b_MD_parts 86 = .ok (.if_icmp .ge 47, 3) := by decide +kernel
theorem d_MD_parts_89 : decode b_MD_parts 89 = .ok (.iload 9, 2) := by decide +kernel
theorem d_MD_parts_91 : decode b_MD_parts 91 = .ok (.iload 4, 2) := by decide +kernel
theorem d_MD_parts_93 : decode b_MD_parts 93 = .ok (.if_icmp .eq 34, 3) := by decide +kernel
theorem d_MD_parts_96 : decode b_MD_parts 96 = .ok (.iload_n 1, 1) := by decide +kernel
theorem d_MD_parts_97 : decode b_MD_parts 97 = .ok (.iload 9, 2) := by decide +kernel
theorem d_MD_parts_99 : decode b_MD_parts 99 = .ok (.ishr, 1) := by decide +kernel
theorem d_MD_parts_100 : decode b_MD_parts 100 = .ok (.iconst 1, 1) := by decide +kernel
theorem d_MD_parts_101 : decode b_MD_parts 101 = .ok (.iand, 1) := by decide +kernel
theorem d_MD_parts_102 : decode b_MD_parts 102 = .ok (.iconst 1, 1) := by decide +kernel
theorem d_MD_parts_103 : decode b_MD_parts 103 = .ok (.if_icmp .ne 24, 3) := by decide +kernel
theorem d_MD_parts_106 : decode b_MD_parts 106 = .ok (.lload 5, 2) := by decide +kernel
theorem d_MD_parts_108 : decode b_MD_parts 108 = .ok (.iload 9, 2) := by decide +kernel
theorem d_MD_parts_110 : decode b_MD_parts 110 = .ok (.iconst 1, 1) := by decide +kernel
theorem d_MD_parts_111 : decode b_MD_parts 111 = .ok (.iadd, 1) := by decide +kernel
theorem d_MD_parts_112 : decode b_MD_parts 112 = .ok (.i2l, 1) := by decide +kernel
theorem d_MD_parts_113 : decode b_MD_parts 113 = .ok (.lmul, 1) := by decide +kernel
theorem d_MD_parts_114 : decode b_MD_parts 114 = .ok (.lstore 5, 2) := by decide +kernel
theorem d_MD_parts_116 : decode b_MD_parts 116 = .ok (.lload 7, 2) := by decide +kernel
theorem d_MD_parts_118 : decode b_MD_parts 118 = .ok (.iload 9, 2) := by decide +kernel
theorem d_MD_parts_120 : decode b_MD_parts 120 = .ok (.iload 4, 2) := by decide +kernel
theorem d_MD_parts_122 : decode b_MD_parts 122 = .ok (.isub, 1) := by decide +kernel
theorem d_MD_parts_123 : decode b_MD_parts 123 = .ok (.i2l, 1) := by decide +kernel
theorem d_MD_parts_124 : decode b_MD_parts 124 = .ok (.lmul, 1) := by decide +kernel
theorem d_MD_parts_125 : decode b_MD_parts 125 = .ok (.lstore 7, 2) := by decide +kernel
theorem d_MD_parts_127 : decode b_MD_parts 127 = .ok (.iinc 9 1, 3) := by decide +kernel
theorem d_MD_parts_130 : decode b_MD_parts 130 = .ok (.goto (-48), 3) := by decide +kernel
theorem d_MD_parts_133 : decode b_MD_parts 133 = .ok (.lload_n 2, 1) := by decide +kernel
theorem d_MD_parts_134 : decode b_MD_parts 134 = .ok (.aload_n 0, 1) := by decide +kernel
theorem d_MD_parts_135 : decode b_MD_parts 135 = .ok (.iload 4, 2) := by decide +kernel
theorem d_MD_parts_137 : decode b_MD_parts 137 = .ok (.invokevirtual 92, 3) := by decide +kernel
theorem d_MD_parts_140 : decode b_MD_parts 140 = .ok (.lload 5, 2) := by decide +kernel
theorem d_MD_parts_142 : decode b_MD_parts 142 = .ok (.lload 7, 2) := by decide +kernel
theorem d_MD_parts_144 : decode b_MD_parts 144 = .ok (.ldiv, 1) := by decide +kernel
theorem d_MD_parts_145 : decode b_MD_parts 145 = .ok (.aload_n 0, 1) := by decide +kernel
theorem d_MD_parts_146 : decode b_MD_parts 146 = .ok (.getfield 17, 3) := by decide +kernel
theorem d_MD_parts_149 : decode b_MD_parts 149 = .ok (.lrem, 1) := by decide +kernel
theorem d_MD_parts_150 : decode b_MD_parts 150 = .ok (.aload_n 0, 1) := by decide +kernel
theorem d_MD_parts_151 : decode b_MD_parts 151 = .ok (.getfield 17, 3) := by decide +kernel
theorem d_MD_parts_154 : decode b_MD_parts 154 = .ok (.ladd, 1) := by decide +kernel
theorem d_MD_parts_155 : decode b_MD_parts 155 = .ok (.aload_n 0, 1) := by decide +kernel
theorem d_MD_parts_156 : decode b_MD_parts 156 = .ok (.getfield 17, 3) := by decide +kernel
theorem d_MD_parts_159 : decode b_MD_parts 159 = .ok (.lrem, 1) := by decide +kernel
theorem d_MD_parts_160 : decode b_MD_parts 160 = .ok (.lmul, 1) := by decide +kernel
theorem d_MD_parts_161 : decode b_MD_parts 161 = .ok (.ladd, 1) := by decide +kernel
theorem d_MD_parts_162 : decode b_MD_parts 162 = .ok (.aload_n 0, 1) := by decide +kernel
theorem d_MD_parts_163 : decode b_MD_parts 163 = .ok (.getfield 17, 3) := by decide +kernel
theorem d_MD_parts_166 : decode b_MD_parts 166 = .ok (.lrem, 1) := by decide +kernel
theorem d_MD_parts_167 : decode b_MD_parts 167 = .ok (.lstore_n 2, 1) := by decide +kernel
theorem d_MD_parts_168 : decode b_MD_parts 168 = .ok (.iinc 4 1, 3) := by decide +kernel
theorem d_MD_parts_171 : decode b_MD_parts 171 = .ok (.goto (-117), 3) := by decide +kernel
theorem d_MD_parts_174 : decode b_MD_parts 174 = .ok (.lload_n 2, 1) := by decide +kernel
theorem d_MD_parts_175 : decode b_MD_parts 175 = .ok (.ldc2_w 166, 3) := by decide +kernel
theorem d_MD_parts_178 : decode b_MD_parts 178 = .ok (.aload_n 0, 1) := by decide +kernel
theorem d_MD_parts_179 : decode b_MD_parts 179 = .ok (.getfield 20, 3) := by decide +kernel
theorem d_MD_parts_182 : decode b_MD_parts 182 = .ok (.lmul, 1) := by decide +kernel
theorem d_MD_parts_183 : decode b_MD_parts 183 = .ok (.aload_n 0, 1) := by decide +kernel
theorem d_MD_parts_184 : decode b_MD_parts 184 = .ok (.getfield 17, 3) := by decide +kernel
theorem d_MD_parts_187 : decode b_MD_parts 187 = .ok (.lrem, 1) := by decide +kernel
theorem d_MD_parts_188 : decode b_MD_parts 188 = .ok (.lcmp, 1) := by decide +kernel
theorem d_MD_parts_189 : decode b_MD_parts 189 = .ok (.ifCond .ne 7, 3) := by decide +kernel
theorem d_MD_parts_192 : decode b_MD_parts 192 = .ok (.iconst 1, 1) := by decide +kernel
theorem d_MD_parts_193 : decode b_MD_parts 193 = .ok (.goto 4, 3) := by decide +kernel
theorem d_MD_parts_196 : decode b_MD_parts 196 = .ok (.iconst 0, 1) := by decide +kernel
theorem d_MD_parts_197 : decode b_MD_parts 197 = .ok (.ireturn, 1) := by decide +kernel
theorem d_MD_told_0 : decode b_MD_told 0 = .ok (.aload_n 0, 1) := by decide +kernel
theorem d_MD_told_1 : decode b_MD_told 1 = .ok (.aload_n 0, 1) := by decide +kernel
theorem d_MD_told_2 : decode b_MD_told 2 = .ok (.iload_n 1, 1) := by decide +kernel
theorem d_MD_told_3 : decode b_MD_told 3 = .ok (.invokevirtual 142, 3) := by decide +kernel
theorem d_MD_told_6 : decode b_MD_told 6 = .ok (.ifCond .ne 7, 3) := by decide +kernel
theorem d_MD_told_9 : decode b_MD_told 9 = .ok (.iconst 1, 1) := by decide +kernel
theorem d_MD_told_10 : decode b_MD_told 10 = .ok (.goto 17, 3) := by decide +kernel
theorem d_MD_told_13 : decode b_MD_told 13 = .ok (.iload_n 2, 1) := by decide +kernel
theorem d_MD_told_14 : decode b_MD_told 14 = .ok (.ifCond .lt 8, 3) := by decide +kernel
theorem d_MD_told_17 : decode b_MD_told 17 = .ok (.iload_n 2, 1) := by decide +kernel
theorem d_MD_told_18 : decode b_MD_told 18 = .ok (.iconst 4, 1) := by decide +kernel
theorem d_MD_told_19 : decode b_MD_told 19 = .ok (.if_icmp .le 7, 3) := by decide +kernel
theorem d_MD_told_22 : decode b_MD_told 22 = .ok (.iconst 2, 1) := by decide +kernel
theorem d_MD_told_23 : decode b_MD_told 23 = .ok (.goto 4, 3) := by decide +kernel
theorem d_MD_told_26 : decode b_MD_told 26 = .ok (.iconst 0, 1) := by decide +kernel
theorem d_MD_told_27 : decode b_MD_told 27 = .ok (.putfield 7, 3) := by decide +kernel
theorem d_MD_told_30 : decode b_MD_told 30 = .ok (.aload_n 0, 1) := by decide +kernel
theorem d_MD_told_31 : decode b_MD_told 31 = .ok (.getfield 7, 3) := by decide +kernel
theorem d_MD_told_34 : decode b_MD_told 34 = .ok (.ifCond .eq 5, 3) := by decide +kernel
theorem d_MD_told_37 : decode b_MD_told 37 = .ok (.lconst 0, 1) := by decide +kernel
theorem d_MD_told_38 : decode b_MD_told 38 = .ok (.lreturn, 1) := by decide +kernel
theorem d_MD_told_39 : decode b_MD_told 39 = .ok (.iload_n 2, 1) := by decide +kernel
theorem d_MD_told_40 : decode b_MD_told 40 = .ok (.ifCond .ne 13, 3) := by decide +kernel
theorem d_MD_told_43 : decode b_MD_told 43 = .ok (.aload_n 0, 1) := by decide +kernel
theorem d_MD_told_44 : decode b_MD_told 44 = .ok (.getfield 48, 3) := by decide +kernel
theorem d_MD_told_47 : decode b_MD_told 47 = .ok (.iload_n 1, 1) := by decide +kernel
theorem d_MD_told_48 : decode b_MD_told 48 = .ok (.iaload, 1) := by decide +kernel
theorem d_MD_told_49 : decode b_MD_told 49 = .ok (.i2l, 1) := by decide +kernel
theorem d_MD_told_50 : decode b_MD_told 50 = .ok (.goto 53, 3) := by decide +kernel
theorem d_MD_told_53 : decode b_MD_told 53 = .ok (.iload_n 2, 1) := by decide +kernel
theorem d_MD_told_54 : decode b_MD_told 54 = .ok (.iconst 1, 1) := by decide +kernel
theorem d_MD_told_55 : decode b_MD_told 55 = .ok (.if_icmp .ne 12, 3) := by decide +kernel
theorem d_MD_told_58 : decode b_MD_told 58 = .ok (.aload_n 0, 1) := by decide +kernel
theorem d_MD_told_59 : decode b_MD_told 59 = .ok (.getfield 51, 3) := by decide +kernel
theorem d_MD_told_62 : decode b_MD_told 62 = .ok (.iload_n 1, 1) := by decide +kernel
theorem d_MD_told_63 : decode b_MD_told 63 = .ok (.laload, 1) := by decide +kernel
theorem d_MD_told_64 : decode b_MD_told 64 = .ok (.goto 39, 3) := by decide +kernel
theorem d_MD_told_67 : decode b_MD_told 67 = .ok (.iload_n 2, 1) := by decide +kernel
theorem d_MD_told_68 : decode b_MD_told 68 = .ok (.iconst 2, 1) := by decide +kernel
theorem d_MD_told_69 : decode b_MD_told 69 = .ok (.if_icmp .ne 13, 3) := by decide +kernel
theorem d_MD_told_72 : decode b_MD_told 72 = .ok (.aload_n 0, 1) := by decide +kernel
theorem d_MD_told_73 : decode b_MD_told 73 = .ok (.getfield 55, 3) := by decide +kernel
theorem d_MD_told_76 : decode b_MD_told 76 = .ok (.iload_n 1, 1) := by decide +kernel
theorem d_MD_told_77 : decode b_MD_told 77 = .ok (.iaload, 1) := by decide +kernel
theorem d_MD_told_78 : decode b_MD_told 78 = .ok (.i2l, 1) := by decide +kernel
theorem d_MD_told_79 : decode b_MD_told 79 = .ok (.goto 24, 3) := by decide +kernel
theorem d_MD_told_82 : decode b_MD_told 82 = .ok (.iload_n 2, 1) := by decide +kernel
theorem d_MD_told_83 : decode b_MD_told 83 = .ok (.iconst 3, 1) := by decide +kernel
theorem d_MD_told_84 : decode b_MD_told 84 = .ok (.if_icmp .ne 13, 3) := by decide +kernel
theorem d_MD_told_87 : decode b_MD_told 87 = .ok (.aload_n 0, 1) := by decide +kernel
theorem d_MD_told_88 : decode b_MD_told 88 = .ok (.getfield 58, 3) := by decide +kernel
theorem d_MD_told_91 : decode b_MD_told 91 = .ok (.iload_n 1, 1) := by decide +kernel
theorem d_MD_told_92 : decode b_MD_told 92 = .ok (.iaload, 1) := by decide +kernel
theorem d_MD_told_93 : decode b_MD_told 93 = .ok (.i2l, 1) := by decide +kernel
theorem d_MD_told_94 : decode b_MD_told 94 = .ok (.goto 9, 3) := by decide +kernel
theorem d_MD_told_97 : decode b_MD_told 97 = .ok (.aload_n 0, 1) := by decide +kernel
theorem d_MD_told_98 : decode b_MD_told 98 = .ok (.getfield 61, 3) := by decide +kernel
theorem d_MD_told_101 : decode b_MD_told 101 = .ok (.iload_n 1, 1) := by decide +kernel
theorem d_MD_told_102 : decode b_MD_told 102 = .ok (.laload, 1) := by decide +kernel
theorem d_MD_told_103 : decode b_MD_told 103 = .ok (.lreturn, 1) := by decide +kernel
theorem d_MD_book_0 : decode b_MD_book 0 = .ok (.aload_n 0, 1) := by decide +kernel
theorem d_MD_book_1 : decode b_MD_book 1 = .ok (.iload_n 1, 1) := by decide +kernel
theorem d_MD_book_2 : decode b_MD_book 2 = .ok (.ifCond .ge 7, 3) := by decide +kernel
theorem d_MD_book_5 : decode b_MD_book 5 = .ok (.iconst 1, 1) := by decide +kernel
theorem d_MD_book_6 : decode b_MD_book 6 = .ok (.goto 4, 3) := by decide +kernel
theorem d_MD_book_9 : decode b_MD_book 9 = .ok (.iconst 0, 1) := by decide +kernel
theorem d_MD_book_10 : decode b_MD_book 10 = .ok (.putfield 7, 3) := by decide +kernel
theorem d_MD_book_13 : decode b_MD_book 13 = .ok (.aload_n 0, 1) := by decide +kernel
theorem d_MD_book_14 : decode b_MD_book 14 = .ok (.getfield 7, 3) := by decide +kernel
theorem d_MD_book_17 : decode b_MD_book 17 = .ok (.ifCond .eq 7, 3) := by decide +kernel
theorem d_MD_book_20 : decode b_MD_book 20 = .ok (.iconst 0, 1) := by decide +kernel
theorem d_MD_book_21 : decode b_MD_book 21 = .ok (.goto 21, 3) := by decide +kernel
theorem d_MD_book_24 : decode b_MD_book 24 = .ok (.iload_n 1, 1) := by decide +kernel
theorem d_MD_book_25 : decode b_MD_book 25 = .ok (.aload_n 0, 1) := by decide +kernel
theorem d_MD_book_26 : decode b_MD_book 26 = .ok (.getfield 73, 3) := by decide +kernel
theorem d_MD_book_29 : decode b_MD_book 29 = .ok (.if_icmp .ge 12, 3) := by decide +kernel
theorem d_MD_book_32 : decode b_MD_book 32 = .ok (.aload_n 0, 1) := by decide +kernel
theorem d_MD_book_33 : decode b_MD_book 33 = .ok (.getfield 76, 3) := by decide +kernel
theorem d_MD_book_36 : decode b_MD_book 36 = .ok (.iload_n 1, 1) := by decide +kernel
theorem d_MD_book_37 : decode b_MD_book 37 = .ok (.iaload, 1) := by decide +kernel
theorem d_MD_book_38 : decode b_MD_book 38 = .ok (.goto 4, 3) := by decide +kernel
theorem d_MD_book_41 : decode b_MD_book 41 = .ok (.iconst (-1), 1) := by decide +kernel
theorem d_MD_book_42 : decode b_MD_book 42 = .ok (.ireturn, 1) := by decide +kernel
theorem d_MD_state_0 : decode b_MD_state 0 = .ok (.aload_n 0, 1) := by decide +kernel
theorem d_MD_state_1 : decode b_MD_state 1 = .ok (.iload_n 1, 1) := by decide +kernel
theorem d_MD_state_2 : decode b_MD_state 2 = .ok (.ifCond .lt 9, 3) := by decide +kernel
theorem d_MD_state_5 : decode b_MD_state 5 = .ok (.iload_n 1, 1) := by decide +kernel
theorem d_MD_state_6 : decode b_MD_state 6 = .ok (.bipush 10, 2) := by decide +kernel
theorem d_MD_state_8 : decode b_MD_state 8 = .ok (.if_icmp .le 7, 3) := by decide +kernel
theorem d_MD_state_11 : decode b_MD_state 11 = .ok (.iconst 1, 1) := by decide +kernel
theorem d_MD_state_12 : decode b_MD_state 12 = .ok (.goto 4, 3) := by decide +kernel
theorem d_MD_state_15 : decode b_MD_state 15 = .ok (.iconst 0, 1) := by decide +kernel
theorem d_MD_state_16 : decode b_MD_state 16 = .ok (.putfield 7, 3) := by decide +kernel
theorem d_MD_state_19 : decode b_MD_state 19 = .ok (.aload_n 0, 1) := by decide +kernel
theorem d_MD_state_20 : decode b_MD_state 20 = .ok (.getfield 7, 3) := by decide +kernel
theorem d_MD_state_23 : decode b_MD_state 23 = .ok (.ifCond .eq 5, 3) := by decide +kernel
theorem d_MD_state_26 : decode b_MD_state 26 = .ok (.lconst 0, 1) := by decide +kernel
theorem d_MD_state_27 : decode b_MD_state 27 = .ok (.lreturn, 1) := by decide +kernel
theorem d_MD_state_28 : decode b_MD_state 28 = .ok (.iload_n 1, 1) := by decide +kernel
theorem d_MD_state_29 : decode b_MD_state 29 = .ok (.iconst 4, 1) := by decide +kernel
theorem d_MD_state_30 : decode b_MD_state 30 = .ok (.if_icmp .ne 9, 3) := by decide +kernel
theorem d_MD_state_33 : decode b_MD_state 33 = .ok (.aload_n 0, 1) := by decide +kernel
theorem d_MD_state_34 : decode b_MD_state 34 = .ok (.getfield 42, 3) := by decide +kernel
theorem d_MD_state_37 : decode b_MD_state 37 = .ok (.i2l, 1) := by decide +kernel
theorem d_MD_state_38 : decode b_MD_state 38 = .ok (.lreturn, 1) := by decide +kernel
theorem d_MD_state_39 : decode b_MD_state 39 = .ok (.aload_n 0, 1) := by decide +kernel
theorem d_MD_state_40 : decode b_MD_state 40 = .ok (.getfield 13, 3) := by decide +kernel
theorem d_MD_state_43 : decode b_MD_state 43 = .ok (.lconst 0, 1) := by decide +kernel
theorem d_MD_state_44 : decode b_MD_state 44 = .ok (.lcmp, 1) := by decide +kernel
theorem d_MD_state_45 : decode b_MD_state 45 = .ok (.ifCond .ne 5, 3) := by decide +kernel
theorem d_MD_state_48 : decode b_MD_state 48 = .ok (.lconst 0, 1) := by decide +kernel
theorem d_MD_state_49 : decode b_MD_state 49 = .ok (.lreturn, 1) := by decide +kernel
theorem d_MD_state_50 : decode b_MD_state 50 = .ok (.iload_n 1, 1) := by decide +kernel
theorem d_MD_state_51 : decode b_MD_state 51 = .ok (.ifCond .ne 10, 3) := by decide +kernel
theorem d_MD_state_54 : decode b_MD_state 54 = .ok (.aload_n 0, 1) := by decide +kernel
theorem d_MD_state_55 : decode b_MD_state 55 = .ok (.getfield 13, 3) := by decide +kernel
theorem d_MD_state_58 : decode b_MD_state 58 = .ok (.goto 49, 3) := by decide +kernel
theorem d_MD_state_61 : decode b_MD_state 61 = .ok (.iload_n 1, 1) := by decide +kernel
theorem d_MD_state_62 : decode b_MD_state 62 = .ok (.iconst 1, 1) := by decide +kernel
theorem d_MD_state_63 : decode b_MD_state 63 = .ok (.if_icmp .ne 11, 3) := by decide +kernel
theorem d_MD_state_66 : decode b_MD_state 66 = .ok (.aload_n 0, 1) := by decide +kernel
theorem d_MD_state_67 : decode b_MD_state 67 = .ok (.getfield 32, 3) := by decide +kernel
theorem d_MD_state_70 : decode b_MD_state 70 = .ok (.i2l, 1) := by decide +kernel
theorem d_MD_state_71 : decode b_MD_state 71 = .ok (.goto 36, 3) := by decide +kernel
theorem d_MD_state_74 : decode b_MD_state 74 = .ok (.iload_n 1, 1) := by decide +kernel
theorem d_MD_state_75 : decode b_MD_state 75 = .ok (.iconst 2, 1) := by decide +kernel
theorem d_MD_state_76 : decode b_MD_state 76 = .ok (.if_icmp .ne 11, 3) := by decide +kernel
theorem d_MD_state_79 : decode b_MD_state 79 = .ok (.aload_n 0, 1) := by decide +kernel
theorem d_MD_state_80 : decode b_MD_state 80 = .ok (.getfield 45, 3) := by decide +kernel
theorem d_MD_state_83 : decode b_MD_state 83 = .ok (.i2l, 1) := by decide +kernel
theorem d_MD_state_84 : decode b_MD_state 84 = .ok (.goto 23, 3) := by decide +kernel
theorem d_MD_state_87 : decode b_MD_state 87 = .ok (.iload_n 1, 1) := by decide +kernel
theorem d_MD_state_88 : decode b_MD_state 88 = .ok (.iconst 3, 1) := by decide +kernel
theorem d_MD_state_89 : decode b_MD_state 89 = .ok (.if_icmp .ne 11, 3) := by decide +kernel
theorem d_MD_state_92 : decode b_MD_state 92 = .ok (.aload_n 0, 1) := by decide +kernel
theorem d_MD_state_93 : decode b_MD_state 93 = .ok (.getfield 35, 3) := by decide +kernel
theorem d_MD_state_96 : decode b_MD_state 96 = .ok (.i2l, 1) := by decide +kernel
theorem d_MD_state_97 : decode b_MD_state 97 = .ok (.goto 10, 3) := by decide +kernel
theorem d_MD_state_100 : decode b_MD_state 100 = .ok (.aload_n 0, 1) := by decide +kernel
theorem d_MD_state_101 : decode b_MD_state 101 = .ok (.iload_n 1, 1) := by decide +kernel
theorem d_MD_state_102 : decode b_MD_state 102 = .ok (.iconst 5, 1) := by decide +kernel
theorem d_MD_state_103 : decode b_MD_state 103 = .ok (.isub, 1) := by decide +kernel
theorem d_MD_state_104 : decode b_MD_state 104 = .ok (.invokevirtual 119, 3) := by decide +kernel
theorem d_MD_state_107 : decode b_MD_state 107 = .ok (.lreturn, 1) := by decide +kernel
