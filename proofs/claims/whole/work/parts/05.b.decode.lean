/-! decode rows -/
theorem d_KE_init_0 : decode b_KE_init 0 = .ok (.aload_n 0, 1) := by decide +kernel
theorem d_KE_init_1 : decode b_KE_init 1 = .ok (.invokespecial 3, 3) := by decide +kernel
theorem d_KE_init_4 : decode b_KE_init 4 = .ok (.aload_n 0, 1) := by decide +kernel
theorem d_KE_init_5 : decode b_KE_init 5 = .ok (.bipush 6, 2) := by decide +kernel
theorem d_KE_init_7 : decode b_KE_init 7 = .ok (.newarray .long, 2) := by decide +kernel
theorem d_KE_init_9 : decode b_KE_init 9 = .ok (.putfield 9, 3) := by decide +kernel
theorem d_KE_init_12 : decode b_KE_init 12 = .ok (.aload_n 0, 1) := by decide +kernel
theorem d_KE_init_13 : decode b_KE_init 13 = .ok (.bipush 6, 2) := by decide +kernel
theorem d_KE_init_15 : decode b_KE_init 15 = .ok (.newarray .long, 2) := by decide +kernel
theorem d_KE_init_17 : decode b_KE_init 17 = .ok (.putfield 15, 3) := by decide +kernel
theorem d_KE_init_20 : decode b_KE_init 20 = .ok (.return_, 1) := by decide +kernel
theorem d_KE_begin_0 : decode b_KE_begin 0 = .ok (.aload_n 0, 1) := by decide +kernel
theorem d_KE_begin_1 : decode b_KE_begin 1 = .ok (.lload_n 1, 1) := by decide +kernel
theorem d_KE_begin_2 : decode b_KE_begin 2 = .ok (.putfield 18, 3) := by decide +kernel
theorem d_KE_begin_5 : decode b_KE_begin 5 = .ok (.aload_n 0, 1) := by decide +kernel
theorem d_KE_begin_6 : decode b_KE_begin 6 = .ok (.lload_n 3, 1) := by decide +kernel
theorem d_KE_begin_7 : decode b_KE_begin 7 = .ok (.putfield 22, 3) := by decide +kernel
theorem d_KE_begin_10 : decode b_KE_begin 10 = .ok (.aload_n 0, 1) := by decide +kernel
theorem d_KE_begin_11 : decode b_KE_begin 11 = .ok (.aload_n 0, 1) := by decide +kernel
theorem d_KE_begin_12 : decode b_KE_begin 12 = .ok (.getfield 18, 3) := by decide +kernel
theorem d_KE_begin_15 : decode b_KE_begin 15 = .ok (.aload_n 0, 1) := by decide +kernel
theorem d_KE_begin_16 : decode b_KE_begin 16 = .ok (.getfield 22, 3) := by decide +kernel
theorem d_KE_begin_19 : decode b_KE_begin 19 = .ok (.lmul, 1) := by decide +kernel
theorem d_KE_begin_20 : decode b_KE_begin 20 = .ok (.putfield 25, 3) := by decide +kernel
theorem d_KE_begin_23 : decode b_KE_begin 23 = .ok (.aload_n 0, 1) := by decide +kernel
theorem d_KE_begin_24 : decode b_KE_begin 24 = .ok (.getfield 18, 3) := by decide +kernel
theorem d_KE_begin_27 : decode b_KE_begin 27 = .ok (.lconst 1, 1) := by decide +kernel
theorem d_KE_begin_28 : decode b_KE_begin 28 = .ok (.lsub, 1) := by decide +kernel
theorem d_KE_begin_29 : decode b_KE_begin 29 = .ok (.ldc2_w 28, 3) := by decide +kernel
theorem d_KE_begin_32 : decode b_KE_begin 32 = .ok (.ldiv, 1) := by decide +kernel
theorem d_KE_begin_33 : decode b_KE_begin 33 = .ok (.lstore 7, 2) := by decide +kernel
theorem d_KE_begin_35 : decode b_KE_begin 35 = .ok (.aload_n 0, 1) := by decide +kernel
theorem d_KE_begin_36 : decode b_KE_begin 36 = .ok (.getfield 22, 3) := by decide +kernel
theorem d_KE_begin_39 : decode b_KE_begin 39 = .ok (.lconst 1, 1) := by decide +kernel
theorem d_KE_begin_40 : decode b_KE_begin 40 = .ok (.lsub, 1) := by decide +kernel
theorem d_KE_begin_41 : decode b_KE_begin 41 = .ok (.ldc2_w 28, 3) := by decide +kernel
theorem d_KE_begin_44 : decode b_KE_begin 44 = .ok (.ldiv, 1) := by decide +kernel
theorem d_KE_begin_45 : decode b_KE_begin 45 = .ok (.lstore 9, 2) := by decide +kernel
theorem d_KE_begin_47 : decode b_KE_begin 47 = .ok (.aload_n 0, 1) := by decide +kernel
theorem d_KE_begin_48 : decode b_KE_begin 48 = .ok (.lload 7, 2) := by decide +kernel
theorem d_KE_begin_50 : decode b_KE_begin 50 = .ok (.lload 9, 2) := by decide +kernel
theorem d_KE_begin_52 : decode b_KE_begin 52 = .ok (.lmul, 1) := by decide +kernel
theorem d_KE_begin_53 : decode b_KE_begin 53 = .ok (.putfield 30, 3) := by decide +kernel
theorem d_KE_begin_56 : decode b_KE_begin 56 = .ok (.aload_n 0, 1) := by decide +kernel
theorem d_KE_begin_57 : decode b_KE_begin 57 = .ok (.ldc2_w 33, 3) := by decide +kernel
theorem d_KE_begin_60 : decode b_KE_begin 60 = .ok (.lload 7, 2) := by decide +kernel
theorem d_KE_begin_62 : decode b_KE_begin 62 = .ok (.lconst 1, 1) := by decide +kernel
theorem d_KE_begin_63 : decode b_KE_begin 63 = .ok (.lsub, 1) := by decide +kernel
theorem d_KE_begin_64 : decode b_KE_begin 64 = .ok (.lload 9, 2) := by decide +kernel
theorem d_KE_begin_66 : decode b_KE_begin 66 = .ok (.lconst 1, 1) := by decide +kernel
theorem d_KE_begin_67 : decode b_KE_begin 67 = .ok (.lsub, 1) := by decide +kernel
theorem d_KE_begin_68 : decode b_KE_begin 68 = .ok (.lmul, 1) := by decide +kernel
theorem d_KE_begin_69 : decode b_KE_begin 69 = .ok (.lconst 1, 1) := by decide +kernel
theorem d_KE_begin_70 : decode b_KE_begin 70 = .ok (.lsub, 1) := by decide +kernel
theorem d_KE_begin_71 : decode b_KE_begin 71 = .ok (.ldc2_w 28, 3) := by decide +kernel
theorem d_KE_begin_74 : decode b_KE_begin 74 = .ok (.aload_n 0, 1) := by decide +kernel
theorem d_KE_begin_75 : decode b_KE_begin 75 = .ok (.getfield 30, 3) := by decide +kernel
theorem d_KE_begin_78 : decode b_KE_begin 78 = .ok (.lmul, 1) := by decide +kernel
theorem d_KE_begin_79 : decode b_KE_begin 79 = .ok (.invokestatic 35, 3) := by decide +kernel
theorem d_KE_begin_82 : decode b_KE_begin 82 = .ok (.putfield 39, 3) := by decide +kernel
theorem d_KE_begin_85 : decode b_KE_begin 85 = .ok (.aload_n 0, 1) := by decide +kernel
theorem d_KE_begin_86 : decode b_KE_begin 86 = .ok (.aload_n 0, 1) := by decide +kernel
theorem d_KE_begin_87 : decode b_KE_begin 87 = .ok (.getfield 39, 3) := by decide +kernel
theorem d_KE_begin_90 : decode b_KE_begin 90 = .ok (.aload_n 0, 1) := by decide +kernel
theorem d_KE_begin_91 : decode b_KE_begin 91 = .ok (.getfield 30, 3) := by decide +kernel
theorem d_KE_begin_94 : decode b_KE_begin 94 = .ok (.invokestatic 42, 3) := by decide +kernel
theorem d_KE_begin_97 : decode b_KE_begin 97 = .ok (.putfield 46, 3) := by decide +kernel
theorem d_KE_begin_100 : decode b_KE_begin 100 = .ok (.aload_n 0, 1) := by decide +kernel
theorem d_KE_begin_101 : decode b_KE_begin 101 = .ok (.lload 5, 2) := by decide +kernel
theorem d_KE_begin_103 : decode b_KE_begin 103 = .ok (.lload 5, 2) := by decide +kernel
theorem d_KE_begin_105 : decode b_KE_begin 105 = .ok (.lmul, 1) := by decide +kernel
theorem d_KE_begin_106 : decode b_KE_begin 106 = .ok (.aload_n 0, 1) := by decide +kernel
theorem d_KE_begin_107 : decode b_KE_begin 107 = .ok (.getfield 25, 3) := by decide +kernel
theorem d_KE_begin_110 : decode b_KE_begin 110 = .ok (.invokestatic 42, 3) := by decide +kernel
theorem d_KE_begin_113 : decode b_KE_begin 113 = .ok (.putfield 49, 3) := by decide +kernel
theorem d_KE_begin_116 : decode b_KE_begin 116 = .ok (.aload_n 0, 1) := by decide +kernel
theorem d_KE_begin_117 : decode b_KE_begin 117 = .ok (.lconst 0, 1) := by decide +kernel
theorem d_KE_begin_118 : decode b_KE_begin 118 = .ok (.putfield 52, 3) := by decide +kernel
theorem d_KE_begin_121 : decode b_KE_begin 121 = .ok (.aload_n 0, 1) := by decide +kernel
theorem d_KE_begin_122 : decode b_KE_begin 122 = .ok (.iconst 1, 1) := by decide +kernel
theorem d_KE_begin_123 : decode b_KE_begin 123 = .ok (.putfield 55, 3) := by decide +kernel
theorem d_KE_begin_126 : decode b_KE_begin 126 = .ok (.iconst 0, 1) := by decide +kernel
theorem d_KE_begin_127 : decode b_KE_begin 127 = .ok (.istore 11, 2) := by decide +kernel
theorem d_KE_begin_129 : decode b_KE_begin 129 = .ok (.iload 11, 2) := by decide +kernel
theorem d_KE_begin_131 : decode b_KE_begin 131 = .ok (.bipush 6, 2) := by decide +kernel
theorem d_KE_begin_133 : decode b_KE_begin 133 = .ok (.if_icmp .ge 20, 3) := by decide +kernel
theorem d_KE_begin_136 : decode b_KE_begin 136 = .ok (.aload_n 0, 1) := by decide +kernel
theorem d_KE_begin_137 : decode b_KE_begin 137 = .ok (.getfield 9, 3) := by decide +kernel
theorem d_KE_begin_140 : decode b_KE_begin 140 = .ok (.iload 11, 2) := by decide +kernel
theorem d_KE_begin_142 : decode b_KE_begin 142 = .ok (.aload_n 0, 1) := by decide +kernel
theorem d_KE_begin_143 : decode b_KE_begin 143 = .ok (.getfield 46, 3) := by decide +kernel
theorem d_KE_begin_146 : decode b_KE_begin 146 = .ok (.lastore, 1) := by decide +kernel
theorem d_KE_begin_147 : decode b_KE_begin 147 = .ok (.iinc 11 1, 3) := by decide +kernel
theorem d_KE_begin_150 : decode b_KE_begin 150 = .ok (.goto (-21), 3) := by decide +kernel
theorem d_KE_begin_153 : decode b_KE_begin 153 = .ok (.return_, 1) := by decide +kernel
theorem d_KE_addPolynomial_0 : decode b_KE_addPolynomial 0 = .ok (.iconst 0, 1) := by decide +kernel
theorem d_KE_addPolynomial_1 : decode b_KE_addPolynomial 1 = .ok (.istore 5, 2) := by decide +kernel
theorem d_KE_addPolynomial_3 : decode b_KE_addPolynomial 3 = .ok (.iload 5, 2) := by decide +kernel
theorem d_KE_addPolynomial_5 : decode b_KE_addPolynomial 5 = .ok (.bipush 6, 2) := by decide +kernel
theorem d_KE_addPolynomial_7 : decode b_KE_addPolynomial 7 = .ok (.if_icmp .ge 72, 3) := by decide +kernel
theorem d_KE_addPolynomial_10 : decode b_KE_addPolynomial 10 = .ok (.iload 5, 2) := by decide +kernel
theorem d_KE_addPolynomial_12 : decode b_KE_addPolynomial 12 = .ok (.iconst 1, 1) := by decide +kernel
theorem d_KE_addPolynomial_13 : decode b_KE_addPolynomial 13 = .ok (.iadd, 1) := by decide +kernel
theorem d_KE_addPolynomial_14 : decode b_KE_addPolynomial 14 = .ok (.i2l, 1) := by decide +kernel
theorem d_KE_addPolynomial_15 : decode b_KE_addPolynomial 15 = .ok (.lstore 6, 2) := by decide +kernel
theorem d_KE_addPolynomial_17 : decode b_KE_addPolynomial 17 = .ok (.aload_n 0, 1) := by decide +kernel
theorem d_KE_addPolynomial_18 : decode b_KE_addPolynomial 18 = .ok (.getfield 9, 3) := by decide +kernel
theorem d_KE_addPolynomial_21 : decode b_KE_addPolynomial 21 = .ok (.iload 5, 2) := by decide +kernel
theorem d_KE_addPolynomial_23 : decode b_KE_addPolynomial 23 = .ok (.aload_n 0, 1) := by decide +kernel
theorem d_KE_addPolynomial_24 : decode b_KE_addPolynomial 24 = .ok (.getfield 9, 3) := by decide +kernel
theorem d_KE_addPolynomial_27 : decode b_KE_addPolynomial 27 = .ok (.iload 5, 2) := by decide +kernel
theorem d_KE_addPolynomial_29 : decode b_KE_addPolynomial 29 = .ok (.laload, 1) := by decide +kernel
theorem d_KE_addPolynomial_30 : decode b_KE_addPolynomial 30 = .ok (.lload_n 1, 1) := by decide +kernel
theorem d_KE_addPolynomial_31 : decode b_KE_addPolynomial 31 = .ok (.lload 6, 2) := by decide +kernel
theorem d_KE_addPolynomial_33 : decode b_KE_addPolynomial 33 = .ok (.lmul, 1) := by decide +kernel
theorem d_KE_addPolynomial_34 : decode b_KE_addPolynomial 34 = .ok (.ladd, 1) := by decide +kernel
theorem d_KE_addPolynomial_35 : decode b_KE_addPolynomial 35 = .ok (.lload_n 3, 1) := by decide +kernel
theorem d_KE_addPolynomial_36 : decode b_KE_addPolynomial 36 = .ok (.lload 6, 2) := by decide +kernel
theorem d_KE_addPolynomial_38 : decode b_KE_addPolynomial 38 = .ok (.lmul, 1) := by decide +kernel
theorem d_KE_addPolynomial_39 : decode b_KE_addPolynomial 39 = .ok (.lload 6, 2) := by decide +kernel
theorem d_KE_addPolynomial_41 : decode b_KE_addPolynomial 41 = .ok (.lmul, 1) := by decide +kernel
theorem d_KE_addPolynomial_42 : decode b_KE_addPolynomial 42 = .ok (.ladd, 1) := by decide +kernel
theorem d_KE_addPolynomial_43 : decode b_KE_addPolynomial 43 = .ok (.aload_n 0, 1) := by decide +kernel
theorem d_KE_addPolynomial_44 : decode b_KE_addPolynomial 44 = .ok (.getfield 30, 3) := by decide +kernel
theorem d_KE_addPolynomial_47 : decode b_KE_addPolynomial 47 = .ok (.invokestatic 42, 3) := by decide +kernel
theorem d_KE_addPolynomial_50 : decode b_KE_addPolynomial 50 = .ok (.lastore, 1) := by decide +kernel
theorem d_KE_addPolynomial_51 : decode b_KE_addPolynomial 51 = .ok (.aload_n 0, 1) := by decide +kernel
theorem d_KE_addPolynomial_52 : decode b_KE_addPolynomial 52 = .ok (.getfield 15, 3) := by decide +kernel
theorem d_KE_addPolynomial_55 : decode b_KE_addPolynomial 55 = .ok (.iload 5, 2) := by decide +kernel
theorem d_KE_addPolynomial_57 : decode b_KE_addPolynomial 57 = .ok (.aload_n 0, 1) := by decide +kernel
theorem d_KE_addPolynomial_58 : decode b_KE_addPolynomial 58 = .ok (.aload_n 0, 1) := by decide +kernel
theorem d_KE_addPolynomial_59 : decode b_KE_addPolynomial 59 = .ok (.getfield 49, 3) := by decide +kernel
theorem d_KE_addPolynomial_62 : decode b_KE_addPolynomial 62 = .ok (.aload_n 0, 1) := by decide +kernel
theorem d_KE_addPolynomial_63 : decode b_KE_addPolynomial 63 = .ok (.getfield 9, 3) := by decide +kernel
theorem d_KE_addPolynomial_66 : decode b_KE_addPolynomial 66 = .ok (.iload 5, 2) := by decide +kernel
theorem d_KE_addPolynomial_68 : decode b_KE_addPolynomial 68 = .ok (.laload, 1) := by decide +kernel
theorem d_KE_addPolynomial_69 : decode b_KE_addPolynomial 69 = .ok (.invokevirtual 59, 3) := by decide +kernel
theorem d_KE_addPolynomial_72 : decode b_KE_addPolynomial 72 = .ok (.lastore, 1) := by decide +kernel
theorem d_KE_addPolynomial_73 : decode b_KE_addPolynomial 73 = .ok (.iinc 5 1, 3) := by decide +kernel
theorem d_KE_addPolynomial_76 : decode b_KE_addPolynomial 76 = .ok (.goto (-73), 3) := by decide +kernel
theorem d_KE_addPolynomial_79 : decode b_KE_addPolynomial 79 = .ok (.return_, 1) := by decide +kernel
theorem d_KE_isPrimeToModulus_0 : decode b_KE_isPrimeToModulus 0 = .ok (.lload_n 1, 1) := by decide +kernel
theorem d_KE_isPrimeToModulus_1 : decode b_KE_isPrimeToModulus 1 = .ok (.aload_n 0, 1) := by decide +kernel
theorem d_KE_isPrimeToModulus_2 : decode b_KE_isPrimeToModulus 2 = .ok (.getfield 18, 3) := by decide +kernel
theorem d_KE_isPrimeToModulus_5 : decode b_KE_isPrimeToModulus 5 = .ok (.invokestatic 42, 3) := by decide +kernel
theorem d_KE_isPrimeToModulus_8 : decode b_KE_isPrimeToModulus 8 = .ok (.lconst 0, 1) := by decide +kernel
theorem d_KE_isPrimeToModulus_9 : decode b_KE_isPrimeToModulus 9 = .ok (.lcmp, 1) := by decide +kernel
theorem d_KE_isPrimeToModulus_10 : decode b_KE_isPrimeToModulus 10 = .ok (.ifCond .eq 20, 3) := by decide +kernel
theorem d_KE_isPrimeToModulus_13 : decode b_KE_isPrimeToModulus 13 = .ok (.lload_n 1, 1) := by decide +kernel
theorem d_KE_isPrimeToModulus_14 : decode b_KE_isPrimeToModulus 14 = .ok (.aload_n 0, 1) := by decide +kernel
theorem d_KE_isPrimeToModulus_15 : decode b_KE_isPrimeToModulus 15 = .ok (.getfield 22, 3) := by decide +kernel
theorem d_KE_isPrimeToModulus_18 : decode b_KE_isPrimeToModulus 18 = .ok (.invokestatic 42, 3) := by decide +kernel
theorem d_KE_isPrimeToModulus_21 : decode b_KE_isPrimeToModulus 21 = .ok (.lconst 0, 1) := by decide +kernel
theorem d_KE_isPrimeToModulus_22 : decode b_KE_isPrimeToModulus 22 = .ok (.lcmp, 1) := by decide +kernel
theorem d_KE_isPrimeToModulus_23 : decode b_KE_isPrimeToModulus 23 = .ok (.ifCond .eq 7, 3) := by decide +kernel
theorem d_KE_isPrimeToModulus_26 : decode b_KE_isPrimeToModulus 26 = .ok (.iconst 1, 1) := by decide +kernel
theorem d_KE_isPrimeToModulus_27 : decode b_KE_isPrimeToModulus 27 = .ok (.goto 4, 3) := by decide +kernel
theorem d_KE_isPrimeToModulus_30 : decode b_KE_isPrimeToModulus 30 = .ok (.iconst 0, 1) := by decide +kernel
theorem d_KE_isPrimeToModulus_31 : decode b_KE_isPrimeToModulus 31 = .ok (.ireturn, 1) := by decide +kernel
theorem d_KE_blockOf_0 : decode b_KE_blockOf 0 = .ok (.ldc2_w 28, 3) := by decide +kernel
theorem d_KE_blockOf_3 : decode b_KE_blockOf 3 = .ok (.aload_n 1, 1) := by decide +kernel
theorem d_KE_blockOf_4 : decode b_KE_blockOf 4 = .ok (.invokevirtual 62, 3) := by decide +kernel
theorem d_KE_blockOf_7 : decode b_KE_blockOf 7 = .ok (.aload_n 0, 1) := by decide +kernel
theorem d_KE_blockOf_8 : decode b_KE_blockOf 8 = .ok (.getfield 25, 3) := by decide +kernel
theorem d_KE_blockOf_11 : decode b_KE_blockOf 11 = .ok (.ldc2_w 68, 3) := by decide +kernel
theorem d_KE_blockOf_14 : decode b_KE_blockOf 14 = .ok (.lsub, 1) := by decide +kernel
theorem d_KE_blockOf_15 : decode b_KE_blockOf 15 = .ok (.invokestatic 42, 3) := by decide +kernel
theorem d_KE_blockOf_18 : decode b_KE_blockOf 18 = .ok (.ladd, 1) := by decide +kernel
theorem d_KE_blockOf_19 : decode b_KE_blockOf 19 = .ok (.lreturn, 1) := by decide +kernel
theorem d_KE_signatureOf_0 : decode b_KE_signatureOf 0 = .ok (.aload_n 0, 1) := by decide +kernel
theorem d_KE_signatureOf_1 : decode b_KE_signatureOf 1 = .ok (.lload_n 1, 1) := by decide +kernel
theorem d_KE_signatureOf_2 : decode b_KE_signatureOf 2 = .ok (.aload_n 0, 1) := by decide +kernel
theorem d_KE_signatureOf_3 : decode b_KE_signatureOf 3 = .ok (.getfield 39, 3) := by decide +kernel
theorem d_KE_signatureOf_6 : decode b_KE_signatureOf 6 = .ok (.invokevirtual 59, 3) := by decide +kernel
theorem d_KE_signatureOf_9 : decode b_KE_signatureOf 9 = .ok (.lreturn, 1) := by decide +kernel
theorem d_KE_isSignature_0 : decode b_KE_isSignature 0 = .ok (.aload_n 0, 1) := by decide +kernel
theorem d_KE_isSignature_1 : decode b_KE_isSignature 1 = .ok (.lload_n 1, 1) := by decide +kernel
theorem d_KE_isSignature_2 : decode b_KE_isSignature 2 = .ok (.invokevirtual 70, 3) := by decide +kernel
theorem d_KE_isSignature_5 : decode b_KE_isSignature 5 = .ok (.ifCond .eq 20, 3) := by decide +kernel
theorem d_KE_isSignature_8 : decode b_KE_isSignature 8 = .ok (.aload_n 0, 1) := by decide +kernel
theorem d_KE_isSignature_9 : decode b_KE_isSignature 9 = .ok (.lload_n 1, 1) := by decide +kernel
theorem d_KE_isSignature_10 : decode b_KE_isSignature 10 = .ok (.ldc2_w 33, 3) := by decide +kernel
theorem d_KE_isSignature_13 : decode b_KE_isSignature 13 = .ok (.invokevirtual 59, 3) := by decide +kernel
theorem d_KE_isSignature_16 : decode b_KE_isSignature 16 = .ok (.lload_n 3, 1) := by decide +kernel
theorem d_KE_isSignature_17 : decode b_KE_isSignature 17 = .ok (.lcmp, 1) := by decide +kernel
theorem d_KE_isSignature_18 : decode b_KE_isSignature 18 = .ok (.ifCond .ne 7, 3) := by decide +kernel
theorem d_KE_isSignature_21 : decode b_KE_isSignature 21 = .ok (.iconst 1, 1) := by decide +kernel
theorem d_KE_isSignature_22 : decode b_KE_isSignature 22 = .ok (.goto 4, 3) := by decide +kernel
theorem d_KE_isSignature_25 : decode b_KE_isSignature 25 = .ok (.iconst 0, 1) := by decide +kernel
theorem d_KE_isSignature_26 : decode b_KE_isSignature 26 = .ok (.ireturn, 1) := by decide +kernel
theorem d_KE_makePartial_0 : decode b_KE_makePartial 0 = .ok (.aload_n 0, 1) := by decide +kernel
theorem d_KE_makePartial_1 : decode b_KE_makePartial 1 = .ok (.getfield 9, 3) := by decide +kernel
theorem d_KE_makePartial_4 : decode b_KE_makePartial 4 = .ok (.iload_n 2, 1) := by decide +kernel
theorem d_KE_makePartial_5 : decode b_KE_makePartial 5 = .ok (.laload, 1) := by decide +kernel
theorem d_KE_makePartial_6 : decode b_KE_makePartial 6 = .ok (.lstore_n 3, 1) := by decide +kernel
theorem d_KE_makePartial_7 : decode b_KE_makePartial 7 = .ok (.aload_n 1, 1) := by decide +kernel
theorem d_KE_makePartial_8 : decode b_KE_makePartial 8 = .ok (.getfield 74, 3) := by decide +kernel
theorem d_KE_makePartial_11 : decode b_KE_makePartial 11 = .ok (.lstore 5, 2) := by decide +kernel
theorem d_KE_makePartial_13 : decode b_KE_makePartial 13 = .ok (.ldc2_w 79, 3) := by decide +kernel
theorem d_KE_makePartial_16 : decode b_KE_makePartial 16 = .ok (.lload_n 3, 1) := by decide +kernel
theorem d_KE_makePartial_17 : decode b_KE_makePartial 17 = .ok (.invokestatic 81, 3) := by decide +kernel
theorem d_KE_makePartial_20 : decode b_KE_makePartial 20 = .ok (.lload 5, 2) := by decide +kernel
theorem d_KE_makePartial_22 : decode b_KE_makePartial 22 = .ok (.invokestatic 81, 3) := by decide +kernel
theorem d_KE_makePartial_25 : decode b_KE_makePartial 25 = .ok (.aload_n 0, 1) := by decide +kernel
theorem d_KE_makePartial_26 : decode b_KE_makePartial 26 = .ok (.getfield 52, 3) := by decide +kernel
theorem d_KE_makePartial_29 : decode b_KE_makePartial 29 = .ok (.invokestatic 81, 3) := by decide +kernel
theorem d_KE_makePartial_32 : decode b_KE_makePartial 32 = .ok (.invokestatic 84, 3) := by decide +kernel
theorem d_KE_makePartial_35 : decode b_KE_makePartial 35 = .ok (.lstore 7, 2) := by decide +kernel
theorem d_KE_makePartial_37 : decode b_KE_makePartial 37 = .ok (.aload_n 0, 1) := by decide +kernel
theorem d_KE_makePartial_38 : decode b_KE_makePartial 38 = .ok (.lload 5, 2) := by decide +kernel
theorem d_KE_makePartial_40 : decode b_KE_makePartial 40 = .ok (.ldc2_w 88, 3) := by decide +kernel
theorem d_KE_makePartial_43 : decode b_KE_makePartial 43 = .ok (.lload_n 3, 1) := by decide +kernel
theorem d_KE_makePartial_44 : decode b_KE_makePartial 44 = .ok (.lmul, 1) := by decide +kernel
theorem d_KE_makePartial_45 : decode b_KE_makePartial 45 = .ok (.invokevirtual 59, 3) := by decide +kernel
theorem d_KE_makePartial_48 : decode b_KE_makePartial 48 = .ok (.lstore 9, 2) := by decide +kernel
theorem d_KE_makePartial_50 : decode b_KE_makePartial 50 = .ok (.aload_n 0, 1) := by decide +kernel
theorem d_KE_makePartial_51 : decode b_KE_makePartial 51 = .ok (.lload 5, 2) := by decide +kernel
theorem d_KE_makePartial_53 : decode b_KE_makePartial 53 = .ok (.ldc2_w 90, 3) := by decide +kernel
theorem d_KE_makePartial_56 : decode b_KE_makePartial 56 = .ok (.invokevirtual 59, 3) := by decide +kernel
theorem d_KE_makePartial_59 : decode b_KE_makePartial 59 = .ok (.lstore 11, 2) := by decide +kernel
theorem d_KE_makePartial_61 : decode b_KE_makePartial 61 = .ok (.aload_n 0, 1) := by decide +kernel
theorem d_KE_makePartial_62 : decode b_KE_makePartial 62 = .ok (.iload_n 2, 1) := by decide +kernel
theorem d_KE_makePartial_63 : decode b_KE_makePartial 63 = .ok (.lload 11, 2) := by decide +kernel
theorem d_KE_makePartial_65 : decode b_KE_makePartial 65 = .ok (.aload_n 0, 1) := by decide +kernel
theorem d_KE_makePartial_66 : decode b_KE_makePartial 66 = .ok (.lload 9, 2) := by decide +kernel
theorem d_KE_makePartial_68 : decode b_KE_makePartial 68 = .ok (.lload 9, 2) := by decide +kernel
theorem d_KE_makePartial_70 : decode b_KE_makePartial 70 = .ok (.invokevirtual 92, 3) := by decide +kernel
theorem d_KE_makePartial_73 : decode b_KE_makePartial 73 = .ok (.aload_n 0, 1) := by decide +kernel
theorem d_KE_makePartial_74 : decode b_KE_makePartial 74 = .ok (.aload_n 0, 1) := by decide +kernel
theorem d_KE_makePartial_75 : decode b_KE_makePartial 75 = .ok (.getfield 49, 3) := by decide +kernel
theorem d_KE_makePartial_78 : decode b_KE_makePartial 78 = .ok (.lload 7, 2) := by decide +kernel
theorem d_KE_makePartial_80 : decode b_KE_makePartial 80 = .ok (.invokevirtual 59, 3) := by decide +kernel
theorem d_KE_makePartial_83 : decode b_KE_makePartial 83 = .ok (.aload_n 0, 1) := by decide +kernel
theorem d_KE_makePartial_84 : decode b_KE_makePartial 84 = .ok (.lload 11, 2) := by decide +kernel
theorem d_KE_makePartial_86 : decode b_KE_makePartial 86 = .ok (.lload 7, 2) := by decide +kernel
theorem d_KE_makePartial_88 : decode b_KE_makePartial 88 = .ok (.invokevirtual 59, 3) := by decide +kernel
theorem d_KE_makePartial_91 : decode b_KE_makePartial 91 = .ok (.invokevirtual 95, 3) := by decide +kernel
theorem d_KE_makePartial_94 : decode b_KE_makePartial 94 = .ok (.istore 13, 2) := by decide +kernel
theorem d_KE_makePartial_96 : decode b_KE_makePartial 96 = .ok (.aload_n 1, 1) := by decide +kernel
theorem d_KE_makePartial_97 : decode b_KE_makePartial 97 = .ok (.iload_n 2, 1) := by decide +kernel
theorem d_KE_makePartial_98 : decode b_KE_makePartial 98 = .ok (.lload 9, 2) := by decide +kernel
theorem d_KE_makePartial_100 : decode b_KE_makePartial 100 = .ok (.iload 13, 2) := by decide +kernel
theorem d_KE_makePartial_102 : decode b_KE_makePartial 102 = .ok (.lload_n 3, 1) := by decide +kernel
theorem d_KE_makePartial_103 : decode b_KE_makePartial 103 = .ok (.iload 13, 2) := by decide +kernel
theorem d_KE_makePartial_105 : decode b_KE_makePartial 105 = .ok (.i2l, 1) := by decide +kernel
theorem d_KE_makePartial_106 : decode b_KE_makePartial 106 = .ok (.lmul, 1) := by decide +kernel
theorem d_KE_makePartial_107 : decode b_KE_makePartial 107 = .ok (.lload 7, 2) := by decide +kernel
theorem d_KE_makePartial_109 : decode b_KE_makePartial 109 = .ok (.ladd, 1) := by decide +kernel
theorem d_KE_makePartial_110 : decode b_KE_makePartial 110 = .ok (.invokevirtual 99, 3) := by decide +kernel
theorem d_KE_makePartial_113 : decode b_KE_makePartial 113 = .ok (.return_, 1) := by decide +kernel
theorem d_KE_isGood_0 : decode b_KE_isGood 0 = .ok (.aload_n 1, 1) := by decide +kernel
theorem d_KE_isGood_1 : decode b_KE_isGood 1 = .ok (.getfield 103, 3) := by decide +kernel
theorem d_KE_isGood_4 : decode b_KE_isGood 4 = .ok (.iload_n 2, 1) := by decide +kernel
theorem d_KE_isGood_5 : decode b_KE_isGood 5 = .ok (.laload, 1) := by decide +kernel
theorem d_KE_isGood_6 : decode b_KE_isGood 6 = .ok (.lstore_n 3, 1) := by decide +kernel
theorem d_KE_isGood_7 : decode b_KE_isGood 7 = .ok (.aload_n 1, 1) := by decide +kernel
theorem d_KE_isGood_8 : decode b_KE_isGood 8 = .ok (.getfield 106, 3) := by decide +kernel
theorem d_KE_isGood_11 : decode b_KE_isGood 11 = .ok (.iload_n 2, 1) := by decide +kernel
theorem d_KE_isGood_12 : decode b_KE_isGood 12 = .ok (.iaload, 1) := by decide +kernel
theorem d_KE_isGood_13 : decode b_KE_isGood 13 = .ok (.istore 5, 2) := by decide +kernel
theorem d_KE_isGood_15 : decode b_KE_isGood 15 = .ok (.aload_n 1, 1) := by decide +kernel
theorem d_KE_isGood_16 : decode b_KE_isGood 16 = .ok (.getfield 110, 3) := by decide +kernel
theorem d_KE_isGood_19 : decode b_KE_isGood 19 = .ok (.iload_n 2, 1) := by decide +kernel
theorem d_KE_isGood_20 : decode b_KE_isGood 20 = .ok (.laload, 1) := by decide +kernel
theorem d_KE_isGood_21 : decode b_KE_isGood 21 = .ok (.lstore 6, 2) := by decide +kernel
theorem d_KE_isGood_23 : decode b_KE_isGood 23 = .ok (.aload_n 0, 1) := by decide +kernel
theorem d_KE_isGood_24 : decode b_KE_isGood 24 = .ok (.lload_n 3, 1) := by decide +kernel
theorem d_KE_isGood_25 : decode b_KE_isGood 25 = .ok (.invokevirtual 70, 3) := by decide +kernel
theorem d_KE_isGood_28 : decode b_KE_isGood 28 = .ok (.ifCond .eq 22, 3) := by decide +kernel
theorem d_KE_isGood_31 : decode b_KE_isGood 31 = .ok (.iload 5, 2) := by decide +kernel
theorem d_KE_isGood_33 : decode b_KE_isGood 33 = .ok (.ifCond .lt 17, 3) := by decide +kernel
theorem d_KE_isGood_36 : decode b_KE_isGood 36 = .ok (.iload 5, 2) := by decide +kernel
theorem d_KE_isGood_38 : decode b_KE_isGood 38 = .ok (.ldc 113, 2) := by decide +kernel
theorem d_KE_isGood_40 : decode b_KE_isGood 40 = .ok (.if_icmp .gt 10, 3) := by decide +kernel
theorem d_KE_isGood_43 : decode b_KE_isGood 43 = .ok (.lload 6, 2) := by decide +kernel
theorem d_KE_isGood_45 : decode b_KE_isGood 45 = .ok (.lconst 0, 1) := by decide +kernel
theorem d_KE_isGood_46 : decode b_KE_isGood 46 = .ok (.lcmp, 1) := by decide +kernel
theorem d_KE_isGood_47 : decode b_KE_isGood 47 = .ok (.ifCond .ge 5, 3) := by decide +kernel
theorem d_KE_isGood_50 : decode b_KE_isGood 50 = .ok (.iconst 0, 1) := by decide +kernel
theorem d_KE_isGood_51 : decode b_KE_isGood 51 = .ok (.ireturn, 1) := by decide +kernel
theorem d_KE_isGood_52 : decode b_KE_isGood 52 = .ok (.aload_n 0, 1) := by decide +kernel
theorem d_KE_isGood_53 : decode b_KE_isGood 53 = .ok (.lload_n 3, 1) := by decide +kernel
theorem d_KE_isGood_54 : decode b_KE_isGood 54 = .ok (.invokevirtual 114, 3) := by decide +kernel
theorem d_KE_isGood_57 : decode b_KE_isGood 57 = .ok (.ifCond .eq 14, 3) := by decide +kernel
theorem d_KE_isGood_60 : decode b_KE_isGood 60 = .ok (.aload_n 0, 1) := by decide +kernel
theorem d_KE_isGood_61 : decode b_KE_isGood 61 = .ok (.aload_n 1, 1) := by decide +kernel
theorem d_KE_isGood_62 : decode b_KE_isGood 62 = .ok (.getfield 74, 3) := by decide +kernel
theorem d_KE_isGood_65 : decode b_KE_isGood 65 = .ok (.invokevirtual 114, 3) := by decide +kernel
theorem d_KE_isGood_68 : decode b_KE_isGood 68 = .ok (.ifCond .ne 5, 3) := by decide +kernel
theorem d_KE_isGood_71 : decode b_KE_isGood 71 = .ok (.iconst 0, 1) := by decide +kernel
theorem d_KE_isGood_72 : decode b_KE_isGood 72 = .ok (.ireturn, 1) := by decide +kernel
theorem d_KE_isGood_73 : decode b_KE_isGood 73 = .ok (.aload_n 0, 1) := by decide +kernel
theorem d_KE_isGood_74 : decode b_KE_isGood 74 = .ok (.aload_n 1, 1) := by decide +kernel
theorem d_KE_isGood_75 : decode b_KE_isGood 75 = .ok (.getfield 74, 3) := by decide +kernel
theorem d_KE_isGood_78 : decode b_KE_isGood 78 = .ok (.ldc2_w 90, 3) := by decide +kernel
theorem d_KE_isGood_81 : decode b_KE_isGood 81 = .ok (.invokevirtual 59, 3) := by decide +kernel
theorem d_KE_isGood_84 : decode b_KE_isGood 84 = .ok (.lstore 8, 2) := by decide +kernel
theorem d_KE_isGood_86 : decode b_KE_isGood 86 = .ok (.aload_n 0, 1) := by decide +kernel
theorem d_KE_isGood_87 : decode b_KE_isGood 87 = .ok (.lload_n 3, 1) := by decide +kernel
theorem d_KE_isGood_88 : decode b_KE_isGood 88 = .ok (.lload_n 3, 1) := by decide +kernel
theorem d_KE_isGood_89 : decode b_KE_isGood 89 = .ok (.invokevirtual 92, 3) := by decide +kernel
theorem d_KE_isGood_92 : decode b_KE_isGood 92 = .ok (.lstore 10, 2) := by decide +kernel
theorem d_KE_isGood_94 : decode b_KE_isGood 94 = .ok (.aload_n 0, 1) := by decide +kernel
theorem d_KE_isGood_95 : decode b_KE_isGood 95 = .ok (.aload_n 0, 1) := by decide +kernel
theorem d_KE_isGood_96 : decode b_KE_isGood 96 = .ok (.aload_n 0, 1) := by decide +kernel
theorem d_KE_isGood_97 : decode b_KE_isGood 97 = .ok (.getfield 49, 3) := by decide +kernel
theorem d_KE_isGood_100 : decode b_KE_isGood 100 = .ok (.lload 6, 2) := by decide +kernel
theorem d_KE_isGood_102 : decode b_KE_isGood 102 = .ok (.invokevirtual 59, 3) := by decide +kernel
theorem d_KE_isGood_105 : decode b_KE_isGood 105 = .ok (.aload_n 0, 1) := by decide +kernel
theorem d_KE_isGood_106 : decode b_KE_isGood 106 = .ok (.aload_n 0, 1) := by decide +kernel
theorem d_KE_isGood_107 : decode b_KE_isGood 107 = .ok (.getfield 15, 3) := by decide +kernel
theorem d_KE_isGood_110 : decode b_KE_isGood 110 = .ok (.iload_n 2, 1) := by decide +kernel
theorem d_KE_isGood_111 : decode b_KE_isGood 111 = .ok (.laload, 1) := by decide +kernel
theorem d_KE_isGood_112 : decode b_KE_isGood 112 = .ok (.iload 5, 2) := by decide +kernel
theorem d_KE_isGood_114 : decode b_KE_isGood 114 = .ok (.i2l, 1) := by decide +kernel
theorem d_KE_isGood_115 : decode b_KE_isGood 115 = .ok (.invokevirtual 117, 3) := by decide +kernel
theorem d_KE_isGood_118 : decode b_KE_isGood 118 = .ok (.invokevirtual 92, 3) := by decide +kernel
theorem d_KE_isGood_121 : decode b_KE_isGood 121 = .ok (.lstore 12, 2) := by decide +kernel
theorem d_KE_isGood_123 : decode b_KE_isGood 123 = .ok (.aload_n 0, 1) := by decide +kernel
theorem d_KE_isGood_124 : decode b_KE_isGood 124 = .ok (.aload_n 0, 1) := by decide +kernel
theorem d_KE_isGood_125 : decode b_KE_isGood 125 = .ok (.lload 8, 2) := by decide +kernel
theorem d_KE_isGood_127 : decode b_KE_isGood 127 = .ok (.lload 6, 2) := by decide +kernel
theorem d_KE_isGood_129 : decode b_KE_isGood 129 = .ok (.invokevirtual 59, 3) := by decide +kernel
theorem d_KE_isGood_132 : decode b_KE_isGood 132 = .ok (.aload_n 0, 1) := by decide +kernel
theorem d_KE_isGood_133 : decode b_KE_isGood 133 = .ok (.lload 10, 2) := by decide +kernel
theorem d_KE_isGood_135 : decode b_KE_isGood 135 = .ok (.iload 5, 2) := by decide +kernel
theorem d_KE_isGood_137 : decode b_KE_isGood 137 = .ok (.i2l, 1) := by decide +kernel
theorem d_KE_isGood_138 : decode b_KE_isGood 138 = .ok (.invokevirtual 117, 3) := by decide +kernel
theorem d_KE_isGood_141 : decode b_KE_isGood 141 = .ok (.invokevirtual 92, 3) := by decide +kernel
theorem d_KE_isGood_144 : decode b_KE_isGood 144 = .ok (.lstore 14, 2) := by decide +kernel
theorem d_KE_isGood_146 : decode b_KE_isGood 146 = .ok (.aload_n 0, 1) := by decide +kernel
theorem d_KE_isGood_147 : decode b_KE_isGood 147 = .ok (.iload_n 2, 1) := by decide +kernel
theorem d_KE_isGood_148 : decode b_KE_isGood 148 = .ok (.lload 8, 2) := by decide +kernel
theorem d_KE_isGood_150 : decode b_KE_isGood 150 = .ok (.lload 10, 2) := by decide +kernel
theorem d_KE_isGood_152 : decode b_KE_isGood 152 = .ok (.lload 12, 2) := by decide +kernel
theorem d_KE_isGood_154 : decode b_KE_isGood 154 = .ok (.lload 14, 2) := by decide +kernel
theorem d_KE_isGood_156 : decode b_KE_isGood 156 = .ok (.invokevirtual 95, 3) := by decide +kernel
theorem d_KE_isGood_159 : decode b_KE_isGood 159 = .ok (.iload 5, 2) := by decide +kernel
theorem d_KE_isGood_161 : decode b_KE_isGood 161 = .ok (.if_icmp .ne 7, 3) := by decide +kernel
theorem d_KE_isGood_164 : decode b_KE_isGood 164 = .ok (.iconst 1, 1) := by decide +kernel
theorem d_KE_isGood_165 : decode b_KE_isGood 165 = .ok (.goto 4, 3) := by decide +kernel
theorem d_KE_isGood_168 : decode b_KE_isGood 168 = .ok (.iconst 0, 1) := by decide +kernel
theorem d_KE_isGood_169 : decode b_KE_isGood 169 = .ok (.ireturn, 1) := by decide +kernel
theorem d_KE_challenge_0 : decode b_KE_challenge 0 = .ok (.ldc2_w 79, 3) := by decide +kernel
theorem d_KE_challenge_3 : decode b_KE_challenge 3 = .ok (.aload_n 0, 1) := by decide +kernel
theorem d_KE_challenge_4 : decode b_KE_challenge 4 = .ok (.getfield 49, 3) := by decide +kernel
theorem d_KE_challenge_7 : decode b_KE_challenge 7 = .ok (.invokestatic 81, 3) := by decide +kernel
theorem d_KE_challenge_10 : decode b_KE_challenge 10 = .ok (.lload_n 2, 1) := by decide +kernel
theorem d_KE_challenge_11 : decode b_KE_challenge 11 = .ok (.invokestatic 81, 3) := by decide +kernel
theorem d_KE_challenge_14 : decode b_KE_challenge 14 = .ok (.aload_n 0, 1) := by decide +kernel
theorem d_KE_challenge_15 : decode b_KE_challenge 15 = .ok (.getfield 15, 3) := by decide +kernel
theorem d_KE_challenge_18 : decode b_KE_challenge 18 = .ok (.iload_n 1, 1) := by decide +kernel
theorem d_KE_challenge_19 : decode b_KE_challenge 19 = .ok (.laload, 1) := by decide +kernel
theorem d_KE_challenge_20 : decode b_KE_challenge 20 = .ok (.invokestatic 81, 3) := by decide +kernel
theorem d_KE_challenge_23 : decode b_KE_challenge 23 = .ok (.lstore 10, 2) := by decide +kernel
theorem d_KE_challenge_25 : decode b_KE_challenge 25 = .ok (.lload 10, 2) := by decide +kernel
theorem d_KE_challenge_27 : decode b_KE_challenge 27 = .ok (.lload 4, 2) := by decide +kernel
theorem d_KE_challenge_29 : decode b_KE_challenge 29 = .ok (.invokestatic 81, 3) := by decide +kernel
theorem d_KE_challenge_32 : decode b_KE_challenge 32 = .ok (.lload 6, 2) := by decide +kernel
theorem d_KE_challenge_34 : decode b_KE_challenge 34 = .ok (.invokestatic 81, 3) := by decide +kernel
theorem d_KE_challenge_37 : decode b_KE_challenge 37 = .ok (.lload 8, 2) := by decide +kernel
theorem d_KE_challenge_39 : decode b_KE_challenge 39 = .ok (.invokestatic 81, 3) := by decide +kernel
theorem d_KE_challenge_42 : decode b_KE_challenge 42 = .ok (.lstore 10, 2) := by decide +kernel
theorem d_KE_challenge_44 : decode b_KE_challenge 44 = .ok (.lload 10, 2) := by decide +kernel
theorem d_KE_challenge_46 : decode b_KE_challenge 46 = .ok (.invokestatic 84, 3) := by decide +kernel
theorem d_KE_challenge_49 : decode b_KE_challenge 49 = .ok (.bipush 15, 2) := by decide +kernel
theorem d_KE_challenge_51 : decode b_KE_challenge 51 = .ok (.lushr, 1) := by decide +kernel
theorem d_KE_challenge_52 : decode b_KE_challenge 52 = .ok (.l2i, 1) := by decide +kernel
theorem d_KE_challenge_53 : decode b_KE_challenge 53 = .ok (.ireturn, 1) := by decide +kernel
theorem d_KE_isWholeBy_0 : decode b_KE_isWholeBy 0 = .ok (.lconst 0, 1) := by decide +kernel
theorem d_KE_isWholeBy_1 : decode b_KE_isWholeBy 1 = .ok (.lstore_n 2, 1) := by decide +kernel
theorem d_KE_isWholeBy_2 : decode b_KE_isWholeBy 2 = .ok (.iconst 0, 1) := by decide +kernel
theorem d_KE_isWholeBy_3 : decode b_KE_isWholeBy 3 = .ok (.istore 4, 2) := by decide +kernel
theorem d_KE_isWholeBy_5 : decode b_KE_isWholeBy 5 = .ok (.iload 4, 2) := by decide +kernel
theorem d_KE_isWholeBy_7 : decode b_KE_isWholeBy 7 = .ok (.bipush 6, 2) := by decide +kernel
theorem d_KE_isWholeBy_9 : decode b_KE_isWholeBy 9 = .ok (.if_icmp .ge 35, 3) := by decide +kernel
theorem d_KE_isWholeBy_12 : decode b_KE_isWholeBy 12 = .ok (.iload_n 1, 1) := by decide +kernel
theorem d_KE_isWholeBy_13 : decode b_KE_isWholeBy 13 = .ok (.iload 4, 2) := by decide +kernel
theorem d_KE_isWholeBy_15 : decode b_KE_isWholeBy 15 = .ok (.invokestatic 120, 3) := by decide +kernel
theorem d_KE_isWholeBy_18 : decode b_KE_isWholeBy 18 = .ok (.ifCond .eq 20, 3) := by decide +kernel
theorem d_KE_isWholeBy_21 : decode b_KE_isWholeBy 21 = .ok (.lload_n 2, 1) := by decide +kernel
theorem d_KE_isWholeBy_22 : decode b_KE_isWholeBy 22 = .ok (.aload_n 0, 1) := by decide +kernel
theorem d_KE_isWholeBy_23 : decode b_KE_isWholeBy 23 = .ok (.getfield 9, 3) := by decide +kernel
theorem d_KE_isWholeBy_26 : decode b_KE_isWholeBy 26 = .ok (.iload 4, 2) := by decide +kernel
theorem d_KE_isWholeBy_28 : decode b_KE_isWholeBy 28 = .ok (.laload, 1) := by decide +kernel
theorem d_KE_isWholeBy_29 : decode b_KE_isWholeBy 29 = .ok (.iload_n 1, 1) := by decide +kernel
theorem d_KE_isWholeBy_30 : decode b_KE_isWholeBy 30 = .ok (.iload 4, 2) := by decide +kernel
theorem d_KE_isWholeBy_32 : decode b_KE_isWholeBy 32 = .ok (.invokestatic 124, 3) := by decide +kernel
theorem d_KE_isWholeBy_35 : decode b_KE_isWholeBy 35 = .ok (.lmul, 1) := by decide +kernel
theorem d_KE_isWholeBy_36 : decode b_KE_isWholeBy 36 = .ok (.ladd, 1) := by decide +kernel
theorem d_KE_isWholeBy_37 : decode b_KE_isWholeBy 37 = .ok (.lstore_n 2, 1) := by decide +kernel
theorem d_KE_isWholeBy_38 : decode b_KE_isWholeBy 38 = .ok (.iinc 4 1, 3) := by decide +kernel
theorem d_KE_isWholeBy_41 : decode b_KE_isWholeBy 41 = .ok (.goto (-36), 3) := by decide +kernel
theorem d_KE_isWholeBy_44 : decode b_KE_isWholeBy 44 = .ok (.lload_n 2, 1) := by decide +kernel
theorem d_KE_isWholeBy_45 : decode b_KE_isWholeBy 45 = .ok (.aload_n 0, 1) := by decide +kernel
theorem d_KE_isWholeBy_46 : decode b_KE_isWholeBy 46 = .ok (.getfield 30, 3) := by decide +kernel
theorem d_KE_isWholeBy_49 : decode b_KE_isWholeBy 49 = .ok (.invokestatic 42, 3) := by decide +kernel
theorem d_KE_isWholeBy_52 : decode b_KE_isWholeBy 52 = .ok (.ldc2_w 128, 3) := by decide +kernel
theorem d_KE_isWholeBy_55 : decode b_KE_isWholeBy 55 = .ok (.aload_n 0, 1) := by decide +kernel
theorem d_KE_isWholeBy_56 : decode b_KE_isWholeBy 56 = .ok (.getfield 46, 3) := by decide +kernel
theorem d_KE_isWholeBy_59 : decode b_KE_isWholeBy 59 = .ok (.lmul, 1) := by decide +kernel
theorem d_KE_isWholeBy_60 : decode b_KE_isWholeBy 60 = .ok (.aload_n 0, 1) := by decide +kernel
theorem d_KE_isWholeBy_61 : decode b_KE_isWholeBy 61 = .ok (.getfield 30, 3) := by decide +kernel
theorem d_KE_isWholeBy_64 : decode b_KE_isWholeBy 64 = .ok (.invokestatic 42, 3) := by decide +kernel
theorem d_KE_isWholeBy_67 : decode b_KE_isWholeBy 67 = .ok (.lcmp, 1) := by decide +kernel
theorem d_KE_isWholeBy_68 : decode b_KE_isWholeBy 68 = .ok (.ifCond .ne 7, 3) := by decide +kernel
theorem d_KE_isWholeBy_71 : decode b_KE_isWholeBy 71 = .ok (.iconst 1, 1) := by decide +kernel
theorem d_KE_isWholeBy_72 : decode b_KE_isWholeBy 72 = .ok (.goto 4, 3) := by decide +kernel
theorem d_KE_isWholeBy_75 : decode b_KE_isWholeBy 75 = .ok (.iconst 0, 1) := by decide +kernel
theorem d_KE_isWholeBy_76 : decode b_KE_isWholeBy 76 = .ok (.ireturn, 1) := by decide +kernel
theorem d_KE_weight_0 : decode b_KE_weight 0 = .ok (.ldc2_w 128, 3) := by decide +kernel
theorem d_KE_weight_3 : decode b_KE_weight 3 = .ok (.lstore_n 2, 1) := by decide +kernel
theorem d_KE_weight_4 : decode b_KE_weight 4 = .ok (.lconst 1, 1) := by decide +kernel
theorem d_KE_weight_5 : decode b_KE_weight 5 = .ok (.lstore 4, 2) := by decide +kernel
theorem d_KE_weight_7 : decode b_KE_weight 7 = .ok (.iconst 0, 1) := by decide +kernel
theorem d_KE_weight_8 : decode b_KE_weight 8 = .ok (.istore 6, 2) := by decide +kernel
theorem d_KE_weight_10 : decode b_KE_weight 10 = .ok (.iload 6, 2) := by decide +kernel
theorem d_KE_weight_12 : decode b_KE_weight 12 = .ok (.bipush 6, 2) := by decide +kernel
theorem d_KE_weight_14 : decode b_KE_weight 14 = .ok (.if_icmp .ge 42, 3) := by decide +kernel
theorem d_KE_weight_17 : decode b_KE_weight 17 = .ok (.iload 6, 2) := by decide +kernel
theorem d_KE_weight_19 : decode b_KE_weight 19 = .ok (.iload_n 1, 1) := by decide +kernel
theorem d_KE_weight_20 : decode b_KE_weight 20 = .ok (.if_icmp .eq 30, 3) := by decide +kernel
theorem d_KE_weight_23 : decode b_KE_weight 23 = .ok (.iload_n 0, 1) := by decide +kernel
theorem d_KE_weight_24 : decode b_KE_weight 24 = .ok (.iload 6, 2) := by decide +kernel
theorem d_KE_weight_26 : decode b_KE_weight 26 = .ok (.invokestatic 120, 3) := by decide +kernel
theorem d_KE_weight_29 : decode b_KE_weight 29 = .ok (.ifCond .eq 21, 3) := by decide +kernel
theorem d_KE_weight_32 : decode b_KE_weight 32 = .ok (.lload_n 2, 1) := by decide +kernel
theorem d_KE_weight_33 : decode b_KE_weight 33 = .ok (.iload 6, 2) := by decide +kernel
theorem d_KE_weight_35 : decode b_KE_weight 35 = .ok (.iconst 1, 1) := by decide +kernel
theorem d_KE_weight_36 : decode b_KE_weight 36 = .ok (.iadd, 1) := by decide +kernel
theorem d_KE_weight_37 : decode b_KE_weight 37 = .ok (.i2l, 1) := by decide +kernel
theorem d_KE_weight_38 : decode b_KE_weight 38 = .ok (.lmul, 1) := by decide +kernel
theorem d_KE_weight_39 : decode b_KE_weight 39 = .ok (.lstore_n 2, 1) := by decide +kernel
theorem d_KE_weight_40 : decode b_KE_weight 40 = .ok (.lload 4, 2) := by decide +kernel
theorem d_KE_weight_42 : decode b_KE_weight 42 = .ok (.iload 6, 2) := by decide +kernel
theorem d_KE_weight_44 : decode b_KE_weight 44 = .ok (.iload_n 1, 1) := by decide +kernel
theorem d_KE_weight_45 : decode b_KE_weight 45 = .ok (.isub, 1) := by decide +kernel
theorem d_KE_weight_46 : decode b_KE_weight 46 = .ok (.i2l, 1) := by decide +kernel
theorem d_KE_weight_47 : decode b_KE_weight 47 = .ok (.lmul, 1) := by decide +kernel
theorem d_KE_weight_48 : decode b_KE_weight 48 = .ok (.lstore 4, 2) := by decide +kernel
theorem d_KE_weight_50 : decode b_KE_weight 50 = .ok (.iinc 6 1, 3) := by decide +kernel
theorem d_KE_weight_53 : decode b_KE_weight 53 = .ok (.goto (-43), 3) := by decide +kernel
theorem d_KE_weight_56 : decode b_KE_weight 56 = .ok (.lload 4, 2) := by decide +kernel
theorem d_KE_weight_58 : decode b_KE_weight 58 = .ok (.lconst 0, 1) := by decide +kernel
theorem d_KE_weight_59 : decode b_KE_weight 59 = .ok (.lcmp, 1) := by decide +kernel
theorem d_KE_weight_60 : decode b_KE_weight 60 = .ok (.ifCond .ne 7, 3) := by decide +kernel
theorem d_KE_weight_63 : decode b_KE_weight 63 = .ok (.lconst 0, 1) := by decide +kernel
theorem d_KE_weight_64 : decode b_KE_weight 64 = .ok (.goto 7, 3) := by decide +kernel
theorem d_KE_weight_67 : decode b_KE_weight 67 = .ok (.lload_n 2, 1) := by decide +kernel
theorem d_KE_weight_68 : decode b_KE_weight 68 = .ok (.lload 4, 2) := by decide +kernel
theorem d_KE_weight_70 : decode b_KE_weight 70 = .ok (.ldiv, 1) := by decide +kernel
theorem d_KE_weight_71 : decode b_KE_weight 71 = .ok (.lreturn, 1) := by decide +kernel
theorem d_KE_isBelowModulus_0 : decode b_KE_isBelowModulus 0 = .ok (.lload_n 1, 1) := by decide +kernel
theorem d_KE_isBelowModulus_1 : decode b_KE_isBelowModulus 1 = .ok (.lconst 0, 1) := by decide +kernel
theorem d_KE_isBelowModulus_2 : decode b_KE_isBelowModulus 2 = .ok (.lcmp, 1) := by decide +kernel
theorem d_KE_isBelowModulus_3 : decode b_KE_isBelowModulus 3 = .ok (.ifCond .lt 16, 3) := by decide +kernel
theorem d_KE_isBelowModulus_6 : decode b_KE_isBelowModulus 6 = .ok (.lload_n 1, 1) := by decide +kernel
theorem d_KE_isBelowModulus_7 : decode b_KE_isBelowModulus 7 = .ok (.aload_n 0, 1) := by decide +kernel
theorem d_KE_isBelowModulus_8 : decode b_KE_isBelowModulus 8 = .ok (.getfield 25, 3) := by decide +kernel
theorem d_KE_isBelowModulus_11 : decode b_KE_isBelowModulus 11 = .ok (.lcmp, 1) := by decide +kernel
theorem d_KE_isBelowModulus_12 : decode b_KE_isBelowModulus 12 = .ok (.ifCond .ge 7, 3) := by decide +kernel
theorem d_KE_isBelowModulus_15 : decode b_KE_isBelowModulus 15 = .ok (.iconst 1, 1) := by decide +kernel
theorem d_KE_isBelowModulus_16 : decode b_KE_isBelowModulus 16 = .ok (.goto 4, 3) := by decide +kernel
theorem d_KE_isBelowModulus_19 : decode b_KE_isBelowModulus 19 = .ok (.iconst 0, 1) := by decide +kernel
theorem d_KE_isBelowModulus_20 : decode b_KE_isBelowModulus 20 = .ok (.ireturn, 1) := by decide +kernel
theorem d_KE_times_0 : decode b_KE_times 0 = .ok (.lload_n 1, 1) := by decide +kernel
theorem d_KE_times_1 : decode b_KE_times 1 = .ok (.lload_n 3, 1) := by decide +kernel
theorem d_KE_times_2 : decode b_KE_times 2 = .ok (.lmul, 1) := by decide +kernel
theorem d_KE_times_3 : decode b_KE_times 3 = .ok (.aload_n 0, 1) := by decide +kernel
theorem d_KE_times_4 : decode b_KE_times 4 = .ok (.getfield 25, 3) := by decide +kernel
theorem d_KE_times_7 : decode b_KE_times 7 = .ok (.invokestatic 42, 3) := by decide +kernel
theorem d_KE_times_10 : decode b_KE_times 10 = .ok (.lreturn, 1) := by decide +kernel
theorem d_KE_power_0 : decode b_KE_power 0 = .ok (.lload_n 1, 1) := by decide +kernel
theorem d_KE_power_1 : decode b_KE_power 1 = .ok (.lload_n 3, 1) := by decide +kernel
theorem d_KE_power_2 : decode b_KE_power 2 = .ok (.aload_n 0, 1) := by decide +kernel
theorem d_KE_power_3 : decode b_KE_power 3 = .ok (.getfield 25, 3) := by decide +kernel
theorem d_KE_power_6 : decode b_KE_power 6 = .ok (.invokestatic 35, 3) := by decide +kernel
theorem d_KE_power_9 : decode b_KE_power 9 = .ok (.lreturn, 1) := by decide +kernel
theorem d_KE_inversePower_0 : decode b_KE_inversePower 0 = .ok (.aload_n 0, 1) := by decide +kernel
theorem d_KE_inversePower_1 : decode b_KE_inversePower 1 = .ok (.lload_n 1, 1) := by decide +kernel
theorem d_KE_inversePower_2 : decode b_KE_inversePower 2 = .ok (.lload_n 3, 1) := by decide +kernel
theorem d_KE_inversePower_3 : decode b_KE_inversePower 3 = .ok (.lneg, 1) := by decide +kernel
theorem d_KE_inversePower_4 : decode b_KE_inversePower 4 = .ok (.ldc2_w 28, 3) := by decide +kernel
theorem d_KE_inversePower_7 : decode b_KE_inversePower 7 = .ok (.aload_n 0, 1) := by decide +kernel
theorem d_KE_inversePower_8 : decode b_KE_inversePower 8 = .ok (.getfield 30, 3) := by decide +kernel
theorem d_KE_inversePower_11 : decode b_KE_inversePower 11 = .ok (.lmul, 1) := by decide +kernel
theorem d_KE_inversePower_12 : decode b_KE_inversePower 12 = .ok (.invokestatic 42, 3) := by decide +kernel
theorem d_KE_inversePower_15 : decode b_KE_inversePower 15 = .ok (.invokevirtual 59, 3) := by decide +kernel
theorem d_KE_inversePower_18 : decode b_KE_inversePower 18 = .ok (.lreturn, 1) := by decide +kernel
