/-! decode rows -/
theorem d_BU_init_0 : decode b_BU_init 0 = .ok (.aload_n 0, 1) := by decide +kernel
theorem d_BU_init_1 : decode b_BU_init 1 = .ok (.invokespecial 3, 3) := by decide +kernel
theorem d_BU_init_4 : decode b_BU_init 4 = .ok (.aload_n 0, 1) := by decide +kernel
theorem d_BU_init_5 : decode b_BU_init 5 = .ok (.bipush 24, 2) := by decide +kernel
theorem d_BU_init_7 : decode b_BU_init 7 = .ok (.newarray .int, 2) := by decide +kernel
theorem d_BU_init_9 : decode b_BU_init 9 = .ok (.putfield 9, 3) := by decide +kernel
theorem d_BU_init_12 : decode b_BU_init 12 = .ok (.return_, 1) := by decide +kernel
theorem d_BU_count_0 : decode b_BU_count 0 = .ok (.aload_n 0, 1) := by decide +kernel
theorem d_BU_count_1 : decode b_BU_count 1 = .ok (.getfield 15, 3) := by decide +kernel
theorem d_BU_count_4 : decode b_BU_count 4 = .ok (.ireturn, 1) := by decide +kernel
theorem d_BU_room_0 : decode b_BU_room 0 = .ok (.bipush 24, 2) := by decide +kernel
theorem d_BU_room_2 : decode b_BU_room 2 = .ok (.aload_n 0, 1) := by decide +kernel
theorem d_BU_room_3 : decode b_BU_room 3 = .ok (.getfield 15, 3) := by decide +kernel
theorem d_BU_room_6 : decode b_BU_room 6 = .ok (.isub, 1) := by decide +kernel
theorem d_BU_room_7 : decode b_BU_room 7 = .ok (.ireturn, 1) := by decide +kernel
theorem d_BU_append_0 : decode b_BU_append 0 = .ok (.iload_n 2, 1) := by decide +kernel
theorem d_BU_append_1 : decode b_BU_append 1 = .ok (.iconst 1, 1) := by decide +kernel
theorem d_BU_append_2 : decode b_BU_append 2 = .ok (.isub, 1) := by decide +kernel
theorem d_BU_append_3 : decode b_BU_append 3 = .ok (.istore_n 3, 1) := by decide +kernel
theorem d_BU_append_4 : decode b_BU_append 4 = .ok (.iload_n 3, 1) := by decide +kernel
theorem d_BU_append_5 : decode b_BU_append 5 = .ok (.ifCond .lt 47, 3) := by decide +kernel
theorem d_BU_append_8 : decode b_BU_append 8 = .ok (.aload_n 0, 1) := by decide +kernel
theorem d_BU_append_9 : decode b_BU_append 9 = .ok (.getfield 15, 3) := by decide +kernel
theorem d_BU_append_12 : decode b_BU_append 12 = .ok (.bipush 24, 2) := by decide +kernel
theorem d_BU_append_14 : decode b_BU_append 14 = .ok (.if_icmp .ge 38, 3) := by decide +kernel
theorem d_BU_append_17 : decode b_BU_append 17 = .ok (.aload_n 0, 1) := by decide +kernel
theorem d_BU_append_18 : decode b_BU_append 18 = .ok (.getfield 9, 3) := by decide +kernel
theorem d_BU_append_21 : decode b_BU_append 21 = .ok (.aload_n 0, 1) := by decide +kernel
theorem d_BU_append_22 : decode b_BU_append 22 = .ok (.getfield 15, 3) := by decide +kernel
theorem d_BU_append_25 : decode b_BU_append 25 = .ok (.iload_n 1, 1) := by decide +kernel
theorem d_BU_append_26 : decode b_BU_append 26 = .ok (.bipush 8, 2) := by decide +kernel
theorem d_BU_append_28 : decode b_BU_append 28 = .ok (.iload_n 3, 1) := by decide +kernel
theorem d_BU_append_29 : decode b_BU_append 29 = .ok (.imul, 1) := by decide +kernel
theorem d_BU_append_30 : decode b_BU_append 30 = .ok (.iushr, 1) := by decide +kernel
theorem d_BU_append_31 : decode b_BU_append 31 = .ok (.sipush 255, 3) := by decide +kernel
theorem d_BU_append_34 : decode b_BU_append 34 = .ok (.iand, 1) := by decide +kernel
theorem d_BU_append_35 : decode b_BU_append 35 = .ok (.iastore, 1) := by decide +kernel
theorem d_BU_append_36 : decode b_BU_append 36 = .ok (.aload_n 0, 1) := by decide +kernel
theorem d_BU_append_37 : decode b_BU_append 37 = .ok (.dup, 1) := by decide +kernel
theorem d_BU_append_38 : decode b_BU_append 38 = .ok (.getfield 15, 3) := by decide +kernel
theorem d_BU_append_41 : decode b_BU_append 41 = .ok (.iconst 1, 1) := by decide +kernel
theorem d_BU_append_42 : decode b_BU_append 42 = .ok (.iadd, 1) := by decide +kernel
theorem d_BU_append_43 : decode b_BU_append 43 = .ok (.putfield 15, 3) := by decide +kernel
theorem d_BU_append_46 : decode b_BU_append 46 = .ok (.iinc 3 (-1), 3) := by decide +kernel
theorem d_BU_append_49 : decode b_BU_append 49 = .ok (.goto (-45), 3) := by decide +kernel
theorem d_BU_append_52 : decode b_BU_append 52 = .ok (.return_, 1) := by decide +kernel
theorem d_BU_clear_0 : decode b_BU_clear 0 = .ok (.aload_n 0, 1) := by decide +kernel
theorem d_BU_clear_1 : decode b_BU_clear 1 = .ok (.iconst 0, 1) := by decide +kernel
theorem d_BU_clear_2 : decode b_BU_clear 2 = .ok (.putfield 15, 3) := by decide +kernel
theorem d_BU_clear_5 : decode b_BU_clear 5 = .ok (.return_, 1) := by decide +kernel
theorem d_BU_mix_0 : decode b_BU_mix 0 = .ok (.ldc2_w 19, 3) := by decide +kernel
theorem d_BU_mix_3 : decode b_BU_mix 3 = .ok (.lstore_n 1, 1) := by decide +kernel
theorem d_BU_mix_4 : decode b_BU_mix 4 = .ok (.iconst 0, 1) := by decide +kernel
theorem d_BU_mix_5 : decode b_BU_mix 5 = .ok (.istore_n 3, 1) := by decide +kernel
theorem d_BU_mix_6 : decode b_BU_mix 6 = .ok (.iload_n 3, 1) := by decide +kernel
theorem d_BU_mix_7 : decode b_BU_mix 7 = .ok (.aload_n 0, 1) := by decide +kernel
theorem d_BU_mix_8 : decode b_BU_mix 8 = .ok (.getfield 15, 3) := by decide +kernel
theorem d_BU_mix_11 : decode b_BU_mix 11 = .ok (.if_icmp .ge 21, 3) := by decide +kernel
theorem d_BU_mix_14 : decode b_BU_mix 14 = .ok (.lload_n 1, 1) := by decide +kernel
theorem d_BU_mix_15 : decode b_BU_mix 15 = .ok (.aload_n 0, 1) := by decide +kernel
theorem d_BU_mix_16 : decode b_BU_mix 16 = .ok (.getfield 9, 3) := by decide +kernel
theorem d_BU_mix_19 : decode b_BU_mix 19 = .ok (.iload_n 3, 1) := by decide +kernel
theorem d_BU_mix_20 : decode b_BU_mix 20 = .ok (.iaload, 1) := by decide +kernel
theorem d_BU_mix_21 : decode b_BU_mix 21 = .ok (.i2l, 1) := by decide +kernel
theorem d_BU_mix_22 : decode b_BU_mix 22 = .ok (.invokestatic 21, 3) := by decide +kernel
theorem d_BU_mix_25 : decode b_BU_mix 25 = .ok (.lstore_n 1, 1) := by decide +kernel
theorem d_BU_mix_26 : decode b_BU_mix 26 = .ok (.iinc 3 1, 3) := by decide +kernel
theorem d_BU_mix_29 : decode b_BU_mix 29 = .ok (.goto (-23), 3) := by decide +kernel
theorem d_BU_mix_32 : decode b_BU_mix 32 = .ok (.lload_n 1, 1) := by decide +kernel
theorem d_BU_mix_33 : decode b_BU_mix 33 = .ok (.aload_n 0, 1) := by decide +kernel
theorem d_BU_mix_34 : decode b_BU_mix 34 = .ok (.getfield 15, 3) := by decide +kernel
theorem d_BU_mix_37 : decode b_BU_mix 37 = .ok (.i2l, 1) := by decide +kernel
theorem d_BU_mix_38 : decode b_BU_mix 38 = .ok (.invokestatic 21, 3) := by decide +kernel
theorem d_BU_mix_41 : decode b_BU_mix 41 = .ok (.invokestatic 25, 3) := by decide +kernel
theorem d_BU_mix_44 : decode b_BU_mix 44 = .ok (.lreturn, 1) := by decide +kernel
theorem d_MO_init_0 : decode b_MO_init 0 = .ok (.aload_n 0, 1) := by decide +kernel
theorem d_MO_init_1 : decode b_MO_init 1 = .ok (.invokespecial 3, 3) := by decide +kernel
theorem d_MO_init_4 : decode b_MO_init 4 = .ok (.aload_n 0, 1) := by decide +kernel
theorem d_MO_init_5 : decode b_MO_init 5 = .ok (.bipush 6, 2) := by decide +kernel
theorem d_MO_init_7 : decode b_MO_init 7 = .ok (.newarray .long, 2) := by decide +kernel
theorem d_MO_init_9 : decode b_MO_init 9 = .ok (.putfield 9, 3) := by decide +kernel
theorem d_MO_init_12 : decode b_MO_init 12 = .ok (.aload_n 0, 1) := by decide +kernel
theorem d_MO_init_13 : decode b_MO_init 13 = .ok (.bipush 6, 2) := by decide +kernel
theorem d_MO_init_15 : decode b_MO_init 15 = .ok (.newarray .int, 2) := by decide +kernel
theorem d_MO_init_17 : decode b_MO_init 17 = .ok (.putfield 15, 3) := by decide +kernel
theorem d_MO_init_20 : decode b_MO_init 20 = .ok (.aload_n 0, 1) := by decide +kernel
theorem d_MO_init_21 : decode b_MO_init 21 = .ok (.bipush 6, 2) := by decide +kernel
theorem d_MO_init_23 : decode b_MO_init 23 = .ok (.newarray .long, 2) := by decide +kernel
theorem d_MO_init_25 : decode b_MO_init 25 = .ok (.putfield 19, 3) := by decide +kernel
theorem d_MO_init_28 : decode b_MO_init 28 = .ok (.return_, 1) := by decide +kernel
theorem d_MO_begin_0 : decode b_MO_begin 0 = .ok (.aload_n 0, 1) := by decide +kernel
theorem d_MO_begin_1 : decode b_MO_begin 1 = .ok (.iconst 0, 1) := by decide +kernel
theorem d_MO_begin_2 : decode b_MO_begin 2 = .ok (.putfield 22, 3) := by decide +kernel
theorem d_MO_begin_5 : decode b_MO_begin 5 = .ok (.aload_n 0, 1) := by decide +kernel
theorem d_MO_begin_6 : decode b_MO_begin 6 = .ok (.lload_n 1, 1) := by decide +kernel
theorem d_MO_begin_7 : decode b_MO_begin 7 = .ok (.putfield 26, 3) := by decide +kernel
theorem d_MO_begin_10 : decode b_MO_begin 10 = .ok (.aload_n 0, 1) := by decide +kernel
theorem d_MO_begin_11 : decode b_MO_begin 11 = .ok (.iconst 0, 1) := by decide +kernel
theorem d_MO_begin_12 : decode b_MO_begin 12 = .ok (.putfield 30, 3) := by decide +kernel
theorem d_MO_begin_15 : decode b_MO_begin 15 = .ok (.aload_n 0, 1) := by decide +kernel
theorem d_MO_begin_16 : decode b_MO_begin 16 = .ok (.iconst 0, 1) := by decide +kernel
theorem d_MO_begin_17 : decode b_MO_begin 17 = .ok (.putfield 33, 3) := by decide +kernel
theorem d_MO_begin_20 : decode b_MO_begin 20 = .ok (.aload_n 0, 1) := by decide +kernel
theorem d_MO_begin_21 : decode b_MO_begin 21 = .ok (.lconst 0, 1) := by decide +kernel
theorem d_MO_begin_22 : decode b_MO_begin 22 = .ok (.putfield 36, 3) := by decide +kernel
theorem d_MO_begin_25 : decode b_MO_begin 25 = .ok (.return_, 1) := by decide +kernel
theorem d_MO_takePartial_0 : decode b_MO_takePartial 0 = .ok (.aload_n 0, 1) := by decide +kernel
theorem d_MO_takePartial_1 : decode b_MO_takePartial 1 = .ok (.getfield 9, 3) := by decide +kernel
theorem d_MO_takePartial_4 : decode b_MO_takePartial 4 = .ok (.iload_n 1, 1) := by decide +kernel
theorem d_MO_takePartial_5 : decode b_MO_takePartial 5 = .ok (.lload_n 2, 1) := by decide +kernel
theorem d_MO_takePartial_6 : decode b_MO_takePartial 6 = .ok (.lastore, 1) := by decide +kernel
theorem d_MO_takePartial_7 : decode b_MO_takePartial 7 = .ok (.aload_n 0, 1) := by decide +kernel
theorem d_MO_takePartial_8 : decode b_MO_takePartial 8 = .ok (.getfield 15, 3) := by decide +kernel
theorem d_MO_takePartial_11 : decode b_MO_takePartial 11 = .ok (.iload_n 1, 1) := by decide +kernel
theorem d_MO_takePartial_12 : decode b_MO_takePartial 12 = .ok (.iload 4, 2) := by decide +kernel
theorem d_MO_takePartial_14 : decode b_MO_takePartial 14 = .ok (.iastore, 1) := by decide +kernel
theorem d_MO_takePartial_15 : decode b_MO_takePartial 15 = .ok (.aload_n 0, 1) := by decide +kernel
theorem d_MO_takePartial_16 : decode b_MO_takePartial 16 = .ok (.getfield 19, 3) := by decide +kernel
theorem d_MO_takePartial_19 : decode b_MO_takePartial 19 = .ok (.iload_n 1, 1) := by decide +kernel
theorem d_MO_takePartial_20 : decode b_MO_takePartial 20 = .ok (.lload 5, 2) := by decide +kernel
theorem d_MO_takePartial_22 : decode b_MO_takePartial 22 = .ok (.lastore, 1) := by decide +kernel
theorem d_MO_takePartial_23 : decode b_MO_takePartial 23 = .ok (.aload_n 0, 1) := by decide +kernel
theorem d_MO_takePartial_24 : decode b_MO_takePartial 24 = .ok (.dup, 1) := by decide +kernel
theorem d_MO_takePartial_25 : decode b_MO_takePartial 25 = .ok (.getfield 30, 3) := by decide +kernel
theorem d_MO_takePartial_28 : decode b_MO_takePartial 28 = .ok (.iconst 1, 1) := by decide +kernel
theorem d_MO_takePartial_29 : decode b_MO_takePartial 29 = .ok (.iload_n 1, 1) := by decide +kernel
theorem d_MO_takePartial_30 : decode b_MO_takePartial 30 = .ok (.ishl, 1) := by decide +kernel
theorem d_MO_takePartial_31 : decode b_MO_takePartial 31 = .ok (.ior, 1) := by decide +kernel
theorem d_MO_takePartial_32 : decode b_MO_takePartial 32 = .ok (.putfield 30, 3) := by decide +kernel
theorem d_MO_takePartial_35 : decode b_MO_takePartial 35 = .ok (.return_, 1) := by decide +kernel
theorem d_MO_dropPartials_0 : decode b_MO_dropPartials 0 = .ok (.aload_n 0, 1) := by decide +kernel
theorem d_MO_dropPartials_1 : decode b_MO_dropPartials 1 = .ok (.iconst 0, 1) := by decide +kernel
theorem d_MO_dropPartials_2 : decode b_MO_dropPartials 2 = .ok (.putfield 30, 3) := by decide +kernel
theorem d_MO_dropPartials_5 : decode b_MO_dropPartials 5 = .ok (.return_, 1) := by decide +kernel
theorem d_MO_takeObjection_0 : decode b_MO_takeObjection 0 = .ok (.aload_n 0, 1) := by decide +kernel
theorem d_MO_takeObjection_1 : decode b_MO_takeObjection 1 = .ok (.dup, 1) := by decide +kernel
theorem d_MO_takeObjection_2 : decode b_MO_takeObjection 2 = .ok (.getfield 33, 3) := by decide +kernel
theorem d_MO_takeObjection_5 : decode b_MO_takeObjection 5 = .ok (.iconst 1, 1) := by decide +kernel
theorem d_MO_takeObjection_6 : decode b_MO_takeObjection 6 = .ok (.iload_n 1, 1) := by decide +kernel
theorem d_MO_takeObjection_7 : decode b_MO_takeObjection 7 = .ok (.ishl, 1) := by decide +kernel
theorem d_MO_takeObjection_8 : decode b_MO_takeObjection 8 = .ok (.ior, 1) := by decide +kernel
theorem d_MO_takeObjection_9 : decode b_MO_takeObjection 9 = .ok (.putfield 33, 3) := by decide +kernel
theorem d_MO_takeObjection_12 : decode b_MO_takeObjection 12 = .ok (.aload_n 0, 1) := by decide +kernel
theorem d_MO_takeObjection_13 : decode b_MO_takeObjection 13 = .ok (.getfield 33, 3) := by decide +kernel
theorem d_MO_takeObjection_16 : decode b_MO_takeObjection 16 = .ok (.invokestatic 39, 3) := by decide +kernel
theorem d_MO_takeObjection_19 : decode b_MO_takeObjection 19 = .ok (.iconst 3, 1) := by decide +kernel
theorem d_MO_takeObjection_20 : decode b_MO_takeObjection 20 = .ok (.if_icmp .lt 8, 3) := by decide +kernel
theorem d_MO_takeObjection_23 : decode b_MO_takeObjection 23 = .ok (.aload_n 0, 1) := by decide +kernel
theorem d_MO_takeObjection_24 : decode b_MO_takeObjection 24 = .ok (.iconst 2, 1) := by decide +kernel
theorem d_MO_takeObjection_25 : decode b_MO_takeObjection 25 = .ok (.putfield 22, 3) := by decide +kernel
theorem d_MO_takeObjection_28 : decode b_MO_takeObjection 28 = .ok (.return_, 1) := by decide +kernel
theorem d_MO_seal_0 : decode b_MO_seal 0 = .ok (.aload_n 0, 1) := by decide +kernel
theorem d_MO_seal_1 : decode b_MO_seal 1 = .ok (.lload_n 1, 1) := by decide +kernel
theorem d_MO_seal_2 : decode b_MO_seal 2 = .ok (.putfield 36, 3) := by decide +kernel
theorem d_MO_seal_5 : decode b_MO_seal 5 = .ok (.aload_n 0, 1) := by decide +kernel
theorem d_MO_seal_6 : decode b_MO_seal 6 = .ok (.iconst 1, 1) := by decide +kernel
theorem d_MO_seal_7 : decode b_MO_seal 7 = .ok (.putfield 22, 3) := by decide +kernel
theorem d_MO_seal_10 : decode b_MO_seal 10 = .ok (.return_, 1) := by decide +kernel
