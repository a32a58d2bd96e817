theorem d_r_init_0 : decode b_r_init 0 = .ok (.aload_n 0, 1) := by decide +kernel
theorem d_r_init_1 : decode b_r_init 1 = .ok (.invokespecial 1, 3) := by decide +kernel
theorem d_r_init_4 : decode b_r_init 4 = .ok (.aload_n 0, 1) := by decide +kernel
theorem d_r_init_5 : decode b_r_init 5 = .ok (.iconst 4, 1) := by decide +kernel
theorem d_r_init_6 : decode b_r_init 6 = .ok (.putfield 7, 3) := by decide +kernel
theorem d_r_init_9 : decode b_r_init 9 = .ok (.aload_n 0, 1) := by decide +kernel
theorem d_r_init_10 : decode b_r_init 10 = .ok (.bipush 120, 2) := by decide +kernel
theorem d_r_init_12 : decode b_r_init 12 = .ok (.newarray .int, 2) := by decide +kernel
theorem d_r_init_14 : decode b_r_init 14 = .ok (.putfield 13, 3) := by decide +kernel
theorem d_r_init_17 : decode b_r_init 17 = .ok (.aload_n 0, 1) := by decide +kernel
theorem d_r_init_18 : decode b_r_init 18 = .ok (.bipush 120, 2) := by decide +kernel
theorem d_r_init_20 : decode b_r_init 20 = .ok (.newarray .int, 2) := by decide +kernel
theorem d_r_init_22 : decode b_r_init 22 = .ok (.putfield 17, 3) := by decide +kernel
theorem d_r_init_25 : decode b_r_init 25 = .ok (.aload_n 0, 1) := by decide +kernel
theorem d_r_init_26 : decode b_r_init 26 = .ok (.bipush 120, 2) := by decide +kernel
theorem d_r_init_28 : decode b_r_init 28 = .ok (.newarray .int, 2) := by decide +kernel
theorem d_r_init_30 : decode b_r_init 30 = .ok (.putfield 20, 3) := by decide +kernel
theorem d_r_init_33 : decode b_r_init 33 = .ok (.aload_n 0, 1) := by decide +kernel
theorem d_r_init_34 : decode b_r_init 34 = .ok (.bipush 120, 2) := by decide +kernel
theorem d_r_init_36 : decode b_r_init 36 = .ok (.newarray .int, 2) := by decide +kernel
theorem d_r_init_38 : decode b_r_init 38 = .ok (.putfield 23, 3) := by decide +kernel
theorem d_r_init_41 : decode b_r_init 41 = .ok (.aload_n 0, 1) := by decide +kernel
theorem d_r_init_42 : decode b_r_init 42 = .ok (.sipush 242, 3) := by decide +kernel
theorem d_r_init_45 : decode b_r_init 45 = .ok (.newarray .int, 2) := by decide +kernel
theorem d_r_init_47 : decode b_r_init 47 = .ok (.putfield 26, 3) := by decide +kernel
theorem d_r_init_50 : decode b_r_init 50 = .ok (.aload_n 0, 1) := by decide +kernel
theorem d_r_init_51 : decode b_r_init 51 = .ok (.sipush 14400, 3) := by decide +kernel
theorem d_r_init_54 : decode b_r_init 54 = .ok (.newarray .boolean, 2) := by decide +kernel
theorem d_r_init_56 : decode b_r_init 56 = .ok (.putfield 29, 3) := by decide +kernel
theorem d_r_init_59 : decode b_r_init 59 = .ok (.aload_n 0, 1) := by decide +kernel
theorem d_r_init_60 : decode b_r_init 60 = .ok (.sipush 960, 3) := by decide +kernel
theorem d_r_init_63 : decode b_r_init 63 = .ok (.newarray .boolean, 2) := by decide +kernel
theorem d_r_init_65 : decode b_r_init 65 = .ok (.putfield 33, 3) := by decide +kernel
theorem d_r_init_68 : decode b_r_init 68 = .ok (.return_, 1) := by decide +kernel
theorem d_r_thrown_0 : decode b_r_thrown 0 = .ok (.aload_n 0, 1) := by decide +kernel
theorem d_r_thrown_1 : decode b_r_thrown 1 = .ok (.getfield 36, 3) := by decide +kernel
theorem d_r_thrown_4 : decode b_r_thrown 4 = .ok (.ireturn, 1) := by decide +kernel
theorem d_r_in_0 : decode b_r_in 0 = .ok (.lload_n 0, 1) := by decide +kernel
theorem d_r_in_1 : decode b_r_in 1 = .ok (.lload_n 2, 1) := by decide +kernel
theorem d_r_in_2 : decode b_r_in 2 = .ok (.lcmp, 1) := by decide +kernel
theorem d_r_in_3 : decode b_r_in 3 = .ok (.ifCond .lt 14, 3) := by decide +kernel
theorem d_r_in_6 : decode b_r_in 6 = .ok (.lload_n 0, 1) := by decide +kernel
theorem d_r_in_7 : decode b_r_in 7 = .ok (.lload 4, 2) := by decide +kernel
theorem d_r_in_9 : decode b_r_in 9 = .ok (.lcmp, 1) := by decide +kernel
theorem d_r_in_10 : decode b_r_in 10 = .ok (.ifCond .gt 7, 3) := by decide +kernel
theorem d_r_in_13 : decode b_r_in 13 = .ok (.iconst 1, 1) := by decide +kernel
theorem d_r_in_14 : decode b_r_in 14 = .ok (.goto 4, 3) := by decide +kernel
theorem d_r_in_17 : decode b_r_in 17 = .ok (.iconst 0, 1) := by decide +kernel
theorem d_r_in_18 : decode b_r_in 18 = .ok (.ireturn, 1) := by decide +kernel
theorem d_r_fails_0 : decode b_r_fails 0 = .ok (.iload_n 1, 1) := by decide +kernel
theorem d_r_fails_1 : decode b_r_fails 1 = .ok (.ifCond .eq 15, 3) := by decide +kernel
theorem d_r_fails_4 : decode b_r_fails 4 = .ok (.aload_n 0, 1) := by decide +kernel
theorem d_r_fails_5 : decode b_r_fails 5 = .ok (.getfield 36, 3) := by decide +kernel
theorem d_r_fails_8 : decode b_r_fails 8 = .ok (.ifCond .ne 8, 3) := by decide +kernel
theorem d_r_fails_11 : decode b_r_fails 11 = .ok (.aload_n 0, 1) := by decide +kernel
theorem d_r_fails_12 : decode b_r_fails 12 = .ok (.iload_n 2, 1) := by decide +kernel
theorem d_r_fails_13 : decode b_r_fails 13 = .ok (.putfield 36, 3) := by decide +kernel
theorem d_r_fails_16 : decode b_r_fails 16 = .ok (.aload_n 0, 1) := by decide +kernel
theorem d_r_fails_17 : decode b_r_fails 17 = .ok (.getfield 36, 3) := by decide +kernel
theorem d_r_fails_20 : decode b_r_fails 20 = .ok (.ifCond .eq 7, 3) := by decide +kernel
theorem d_r_fails_23 : decode b_r_fails 23 = .ok (.iconst 1, 1) := by decide +kernel
theorem d_r_fails_24 : decode b_r_fails 24 = .ok (.goto 4, 3) := by decide +kernel
theorem d_r_fails_27 : decode b_r_fails 27 = .ok (.iconst 0, 1) := by decide +kernel
theorem d_r_fails_28 : decode b_r_fails 28 = .ok (.ireturn, 1) := by decide +kernel
theorem d_r_isEvent_0 : decode b_r_isEvent 0 = .ok (.iload_n 1, 1) := by decide +kernel
theorem d_r_isEvent_1 : decode b_r_isEvent 1 = .ok (.i2l, 1) := by decide +kernel
theorem d_r_isEvent_2 : decode b_r_isEvent 2 = .ok (.lconst 0, 1) := by decide +kernel
theorem d_r_isEvent_3 : decode b_r_isEvent 3 = .ok (.aload_n 0, 1) := by decide +kernel
theorem d_r_isEvent_4 : decode b_r_isEvent 4 = .ok (.getfield 39, 3) := by decide +kernel
theorem d_r_isEvent_7 : decode b_r_isEvent 7 = .ok (.iconst 1, 1) := by decide +kernel
theorem d_r_isEvent_8 : decode b_r_isEvent 8 = .ok (.isub, 1) := by decide +kernel
theorem d_r_isEvent_9 : decode b_r_isEvent 9 = .ok (.i2l, 1) := by decide +kernel
theorem d_r_isEvent_10 : decode b_r_isEvent 10 = .ok (.invokestatic 42, 3) := by decide +kernel
theorem d_r_isEvent_13 : decode b_r_isEvent 13 = .ok (.ireturn, 1) := by decide +kernel
theorem d_r_isAbove_0 : decode b_r_isAbove 0 = .ok (.aload_n 0, 1) := by decide +kernel
theorem d_r_isAbove_1 : decode b_r_isAbove 1 = .ok (.getfield 29, 3) := by decide +kernel
theorem d_r_isAbove_4 : decode b_r_isAbove 4 = .ok (.bipush 120, 2) := by decide +kernel
theorem d_r_isAbove_6 : decode b_r_isAbove 6 = .ok (.iload_n 2, 1) := by decide +kernel
theorem d_r_isAbove_7 : decode b_r_isAbove 7 = .ok (.imul, 1) := by decide +kernel
theorem d_r_isAbove_8 : decode b_r_isAbove 8 = .ok (.iload_n 1, 1) := by decide +kernel
theorem d_r_isAbove_9 : decode b_r_isAbove 9 = .ok (.iadd, 1) := by decide +kernel
theorem d_r_isAbove_10 : decode b_r_isAbove 10 = .ok (.baload, 1) := by decide +kernel
theorem d_r_isAbove_11 : decode b_r_isAbove 11 = .ok (.ireturn, 1) := by decide +kernel
theorem d_r_isOwn_0 : decode b_r_isOwn 0 = .ok (.iload_n 1, 1) := by decide +kernel
theorem d_r_isOwn_1 : decode b_r_isOwn 1 = .ok (.istore_n 3, 1) := by decide +kernel
theorem d_r_isOwn_2 : decode b_r_isOwn 2 = .ok (.iload_n 3, 1) := by decide +kernel
theorem d_r_isOwn_3 : decode b_r_isOwn 3 = .ok (.ifCond .lt 20, 3) := by decide +kernel
theorem d_r_isOwn_6 : decode b_r_isOwn 6 = .ok (.iload_n 3, 1) := by decide +kernel
theorem d_r_isOwn_7 : decode b_r_isOwn 7 = .ok (.iload_n 2, 1) := by decide +kernel
theorem d_r_isOwn_8 : decode b_r_isOwn 8 = .ok (.if_icmp .ne 5, 3) := by decide +kernel
theorem d_r_isOwn_11 : decode b_r_isOwn 11 = .ok (.iconst 1, 1) := by decide +kernel
theorem d_r_isOwn_12 : decode b_r_isOwn 12 = .ok (.ireturn, 1) := by decide +kernel
theorem d_r_isOwn_13 : decode b_r_isOwn 13 = .ok (.aload_n 0, 1) := by decide +kernel
theorem d_r_isOwn_14 : decode b_r_isOwn 14 = .ok (.getfield 17, 3) := by decide +kernel
theorem d_r_isOwn_17 : decode b_r_isOwn 17 = .ok (.iload_n 3, 1) := by decide +kernel
theorem d_r_isOwn_18 : decode b_r_isOwn 18 = .ok (.iaload, 1) := by decide +kernel
theorem d_r_isOwn_19 : decode b_r_isOwn 19 = .ok (.istore_n 3, 1) := by decide +kernel
theorem d_r_isOwn_20 : decode b_r_isOwn 20 = .ok (.goto (-18), 3) := by decide +kernel
theorem d_r_isOwn_23 : decode b_r_isOwn 23 = .ok (.iconst 0, 1) := by decide +kernel
theorem d_r_isOwn_24 : decode b_r_isOwn 24 = .ok (.ireturn, 1) := by decide +kernel
theorem d_r_isFork_0 : decode b_r_isFork 0 = .ok (.aload_n 0, 1) := by decide +kernel
theorem d_r_isFork_1 : decode b_r_isFork 1 = .ok (.getfield 13, 3) := by decide +kernel
theorem d_r_isFork_4 : decode b_r_isFork 4 = .ok (.iload_n 1, 1) := by decide +kernel
theorem d_r_isFork_5 : decode b_r_isFork 5 = .ok (.iaload, 1) := by decide +kernel
theorem d_r_isFork_6 : decode b_r_isFork 6 = .ok (.aload_n 0, 1) := by decide +kernel
theorem d_r_isFork_7 : decode b_r_isFork 7 = .ok (.getfield 13, 3) := by decide +kernel
theorem d_r_isFork_10 : decode b_r_isFork 10 = .ok (.iload_n 2, 1) := by decide +kernel
theorem d_r_isFork_11 : decode b_r_isFork 11 = .ok (.iaload, 1) := by decide +kernel
theorem d_r_isFork_12 : decode b_r_isFork 12 = .ok (.if_icmp .ne 25, 3) := by decide +kernel
theorem d_r_isFork_15 : decode b_r_isFork 15 = .ok (.aload_n 0, 1) := by decide +kernel
theorem d_r_isFork_16 : decode b_r_isFork 16 = .ok (.iload_n 1, 1) := by decide +kernel
theorem d_r_isFork_17 : decode b_r_isFork 17 = .ok (.iload_n 2, 1) := by decide +kernel
theorem d_r_isFork_18 : decode b_r_isFork 18 = .ok (.invokevirtual 46, 3) := by decide +kernel
theorem d_r_isFork_21 : decode b_r_isFork 21 = .ok (.ifCond .ne 16, 3) := by decide +kernel
theorem d_r_isFork_24 : decode b_r_isFork 24 = .ok (.aload_n 0, 1) := by decide +kernel
theorem d_r_isFork_25 : decode b_r_isFork 25 = .ok (.iload_n 2, 1) := by decide +kernel
theorem d_r_isFork_26 : decode b_r_isFork 26 = .ok (.iload_n 1, 1) := by decide +kernel
theorem d_r_isFork_27 : decode b_r_isFork 27 = .ok (.invokevirtual 46, 3) := by decide +kernel
theorem d_r_isFork_30 : decode b_r_isFork 30 = .ok (.ifCond .ne 7, 3) := by decide +kernel
theorem d_r_isFork_33 : decode b_r_isFork 33 = .ok (.iconst 1, 1) := by decide +kernel
theorem d_r_isFork_34 : decode b_r_isFork 34 = .ok (.goto 4, 3) := by decide +kernel
theorem d_r_isFork_37 : decode b_r_isFork 37 = .ok (.iconst 0, 1) := by decide +kernel
theorem d_r_isFork_38 : decode b_r_isFork 38 = .ok (.ireturn, 1) := by decide +kernel
theorem d_r_begin_0 : decode b_r_begin 0 = .ok (.aload_n 0, 1) := by decide +kernel
theorem d_r_begin_1 : decode b_r_begin 1 = .ok (.iconst 0, 1) := by decide +kernel
theorem d_r_begin_2 : decode b_r_begin 2 = .ok (.putfield 36, 3) := by decide +kernel
theorem d_r_begin_5 : decode b_r_begin 5 = .ok (.aload_n 0, 1) := by decide +kernel
theorem d_r_begin_6 : decode b_r_begin 6 = .ok (.iload_n 1, 1) := by decide +kernel
theorem d_r_begin_7 : decode b_r_begin 7 = .ok (.i2l, 1) := by decide +kernel
theorem d_r_begin_8 : decode b_r_begin 8 = .ok (.ldc2_w 50, 3) := by decide +kernel
theorem d_r_begin_11 : decode b_r_begin 11 = .ok (.ldc2_w 52, 3) := by decide +kernel
theorem d_r_begin_14 : decode b_r_begin 14 = .ok (.invokestatic 42, 3) := by decide +kernel
theorem d_r_begin_17 : decode b_r_begin 17 = .ok (.ifCond .ne 7, 3) := by decide +kernel
theorem d_r_begin_20 : decode b_r_begin 20 = .ok (.iconst 1, 1) := by decide +kernel
theorem d_r_begin_21 : decode b_r_begin 21 = .ok (.goto 4, 3) := by decide +kernel
theorem d_r_begin_24 : decode b_r_begin 24 = .ok (.iconst 0, 1) := by decide +kernel
theorem d_r_begin_25 : decode b_r_begin 25 = .ok (.iconst 1, 1) := by decide +kernel
theorem d_r_begin_26 : decode b_r_begin 26 = .ok (.invokevirtual 54, 3) := by decide +kernel
theorem d_r_begin_29 : decode b_r_begin 29 = .ok (.ifCond .eq 4, 3) := by decide +kernel
theorem d_r_begin_32 : decode b_r_begin 32 = .ok (.return_, 1) := by decide +kernel
theorem d_r_begin_33 : decode b_r_begin 33 = .ok (.aload_n 0, 1) := by decide +kernel
theorem d_r_begin_34 : decode b_r_begin 34 = .ok (.iload_n 1, 1) := by decide +kernel
theorem d_r_begin_35 : decode b_r_begin 35 = .ok (.putfield 7, 3) := by decide +kernel
theorem d_r_begin_38 : decode b_r_begin 38 = .ok (.aload_n 0, 1) := by decide +kernel
theorem d_r_begin_39 : decode b_r_begin 39 = .ok (.iconst 0, 1) := by decide +kernel
theorem d_r_begin_40 : decode b_r_begin 40 = .ok (.putfield 39, 3) := by decide +kernel
theorem d_r_begin_43 : decode b_r_begin 43 = .ok (.return_, 1) := by decide +kernel
theorem d_r_ways_0 : decode b_r_ways 0 = .ok (.iconst 0, 1) := by decide +kernel
theorem d_r_ways_1 : decode b_r_ways 1 = .ok (.istore_n 2, 1) := by decide +kernel
theorem d_r_ways_2 : decode b_r_ways 2 = .ok (.iload_n 2, 1) := by decide +kernel
theorem d_r_ways_3 : decode b_r_ways 3 = .ok (.bipush 120, 2) := by decide +kernel
theorem d_r_ways_5 : decode b_r_ways 5 = .ok (.if_icmp .ge 21, 3) := by decide +kernel
theorem d_r_ways_8 : decode b_r_ways 8 = .ok (.aload_n 0, 1) := by decide +kernel
theorem d_r_ways_9 : decode b_r_ways 9 = .ok (.getfield 29, 3) := by decide +kernel
theorem d_r_ways_12 : decode b_r_ways 12 = .ok (.bipush 120, 2) := by decide +kernel
theorem d_r_ways_14 : decode b_r_ways 14 = .ok (.iload_n 1, 1) := by decide +kernel
theorem d_r_ways_15 : decode b_r_ways 15 = .ok (.imul, 1) := by decide +kernel
theorem d_r_ways_16 : decode b_r_ways 16 = .ok (.iload_n 2, 1) := by decide +kernel
theorem d_r_ways_17 : decode b_r_ways 17 = .ok (.iadd, 1) := by decide +kernel
theorem d_r_ways_18 : decode b_r_ways 18 = .ok (.iconst 0, 1) := by decide +kernel
theorem d_r_ways_19 : decode b_r_ways 19 = .ok (.bastore, 1) := by decide +kernel
theorem d_r_ways_20 : decode b_r_ways 20 = .ok (.iinc 2 1, 3) := by decide +kernel
theorem d_r_ways_23 : decode b_r_ways 23 = .ok (.goto (-21), 3) := by decide +kernel
theorem d_r_ways_26 : decode b_r_ways 26 = .ok (.iconst 0, 1) := by decide +kernel
theorem d_r_ways_27 : decode b_r_ways 27 = .ok (.istore_n 2, 1) := by decide +kernel
theorem d_r_ways_28 : decode b_r_ways 28 = .ok (.aload_n 0, 1) := by decide +kernel
theorem d_r_ways_29 : decode b_r_ways 29 = .ok (.getfield 26, 3) := by decide +kernel
theorem d_r_ways_32 : decode b_r_ways 32 = .ok (.iload_n 2, 1) := by decide +kernel
theorem d_r_ways_33 : decode b_r_ways 33 = .ok (.iinc 2 1, 3) := by decide +kernel
theorem d_r_ways_36 : decode b_r_ways 36 = .ok (.iload_n 1, 1) := by decide +kernel
theorem d_r_ways_37 : decode b_r_ways 37 = .ok (.iastore, 1) := by decide +kernel
theorem d_r_ways_38 : decode b_r_ways 38 = .ok (.iload_n 2, 1) := by decide +kernel
theorem d_r_ways_39 : decode b_r_ways 39 = .ok (.ifCond .le 74, 3) := by decide +kernel
theorem d_r_ways_42 : decode b_r_ways 42 = .ok (.aload_n 0, 1) := by decide +kernel
theorem d_r_ways_43 : decode b_r_ways 43 = .ok (.getfield 26, 3) := by decide +kernel
theorem d_r_ways_46 : decode b_r_ways 46 = .ok (.iinc 2 (-1), 3) := by decide +kernel
theorem d_r_ways_49 : decode b_r_ways 49 = .ok (.iload_n 2, 1) := by decide +kernel
theorem d_r_ways_50 : decode b_r_ways 50 = .ok (.iaload, 1) := by decide +kernel
theorem d_r_ways_51 : decode b_r_ways 51 = .ok (.istore_n 3, 1) := by decide +kernel
theorem d_r_ways_52 : decode b_r_ways 52 = .ok (.iload_n 3, 1) := by decide +kernel
theorem d_r_ways_53 : decode b_r_ways 53 = .ok (.ifCond .lt (-15), 3) := by decide +kernel
theorem d_r_ways_56 : decode b_r_ways 56 = .ok (.aload_n 0, 1) := by decide +kernel
theorem d_r_ways_57 : decode b_r_ways 57 = .ok (.iload_n 3, 1) := by decide +kernel
theorem d_r_ways_58 : decode b_r_ways 58 = .ok (.iload_n 1, 1) := by decide +kernel
theorem d_r_ways_59 : decode b_r_ways 59 = .ok (.invokevirtual 58, 3) := by decide +kernel
theorem d_r_ways_62 : decode b_r_ways 62 = .ok (.ifCond .eq 6, 3) := by decide +kernel
theorem d_r_ways_65 : decode b_r_ways 65 = .ok (.goto (-27), 3) := by decide +kernel
theorem d_r_ways_68 : decode b_r_ways 68 = .ok (.aload_n 0, 1) := by decide +kernel
theorem d_r_ways_69 : decode b_r_ways 69 = .ok (.getfield 29, 3) := by decide +kernel
theorem d_r_ways_72 : decode b_r_ways 72 = .ok (.bipush 120, 2) := by decide +kernel
theorem d_r_ways_74 : decode b_r_ways 74 = .ok (.iload_n 1, 1) := by decide +kernel
theorem d_r_ways_75 : decode b_r_ways 75 = .ok (.imul, 1) := by decide +kernel
theorem d_r_ways_76 : decode b_r_ways 76 = .ok (.iload_n 3, 1) := by decide +kernel
theorem d_r_ways_77 : decode b_r_ways 77 = .ok (.iadd, 1) := by decide +kernel
theorem d_r_ways_78 : decode b_r_ways 78 = .ok (.iconst 1, 1) := by decide +kernel
theorem d_r_ways_79 : decode b_r_ways 79 = .ok (.bastore, 1) := by decide +kernel
theorem d_r_ways_80 : decode b_r_ways 80 = .ok (.aload_n 0, 1) := by decide +kernel
theorem d_r_ways_81 : decode b_r_ways 81 = .ok (.getfield 26, 3) := by decide +kernel
theorem d_r_ways_84 : decode b_r_ways 84 = .ok (.iload_n 2, 1) := by decide +kernel
theorem d_r_ways_85 : decode b_r_ways 85 = .ok (.iinc 2 1, 3) := by decide +kernel
theorem d_r_ways_88 : decode b_r_ways 88 = .ok (.aload_n 0, 1) := by decide +kernel
theorem d_r_ways_89 : decode b_r_ways 89 = .ok (.getfield 17, 3) := by decide +kernel
theorem d_r_ways_92 : decode b_r_ways 92 = .ok (.iload_n 3, 1) := by decide +kernel
theorem d_r_ways_93 : decode b_r_ways 93 = .ok (.iaload, 1) := by decide +kernel
theorem d_r_ways_94 : decode b_r_ways 94 = .ok (.iastore, 1) := by decide +kernel
theorem d_r_ways_95 : decode b_r_ways 95 = .ok (.aload_n 0, 1) := by decide +kernel
theorem d_r_ways_96 : decode b_r_ways 96 = .ok (.getfield 26, 3) := by decide +kernel
theorem d_r_ways_99 : decode b_r_ways 99 = .ok (.iload_n 2, 1) := by decide +kernel
theorem d_r_ways_100 : decode b_r_ways 100 = .ok (.iinc 2 1, 3) := by decide +kernel
theorem d_r_ways_103 : decode b_r_ways 103 = .ok (.aload_n 0, 1) := by decide +kernel
theorem d_r_ways_104 : decode b_r_ways 104 = .ok (.getfield 20, 3) := by decide +kernel
theorem d_r_ways_107 : decode b_r_ways 107 = .ok (.iload_n 3, 1) := by decide +kernel
theorem d_r_ways_108 : decode b_r_ways 108 = .ok (.iaload, 1) := by decide +kernel
theorem d_r_ways_109 : decode b_r_ways 109 = .ok (.iastore, 1) := by decide +kernel
theorem d_r_ways_110 : decode b_r_ways 110 = .ok (.goto (-72), 3) := by decide +kernel
theorem d_r_ways_113 : decode b_r_ways 113 = .ok (.return_, 1) := by decide +kernel
theorem d_r_event_0 : decode b_r_event 0 = .ok (.aload_n 0, 1) := by decide +kernel
theorem d_r_event_1 : decode b_r_event 1 = .ok (.iconst 0, 1) := by decide +kernel
theorem d_r_event_2 : decode b_r_event 2 = .ok (.putfield 36, 3) := by decide +kernel
theorem d_r_event_5 : decode b_r_event 5 = .ok (.aload_n 0, 1) := by decide +kernel
theorem d_r_event_6 : decode b_r_event 6 = .ok (.iload_n 1, 1) := by decide +kernel
theorem d_r_event_7 : decode b_r_event 7 = .ok (.i2l, 1) := by decide +kernel
theorem d_r_event_8 : decode b_r_event 8 = .ok (.lconst 0, 1) := by decide +kernel
theorem d_r_event_9 : decode b_r_event 9 = .ok (.aload_n 0, 1) := by decide +kernel
theorem d_r_event_10 : decode b_r_event 10 = .ok (.getfield 7, 3) := by decide +kernel
theorem d_r_event_13 : decode b_r_event 13 = .ok (.iconst 1, 1) := by decide +kernel
theorem d_r_event_14 : decode b_r_event 14 = .ok (.isub, 1) := by decide +kernel
theorem d_r_event_15 : decode b_r_event 15 = .ok (.i2l, 1) := by decide +kernel
theorem d_r_event_16 : decode b_r_event 16 = .ok (.invokestatic 42, 3) := by decide +kernel
theorem d_r_event_19 : decode b_r_event 19 = .ok (.ifCond .eq 49, 3) := by decide +kernel
theorem d_r_event_22 : decode b_r_event 22 = .ok (.iload_n 2, 1) := by decide +kernel
theorem d_r_event_23 : decode b_r_event 23 = .ok (.iconst (-1), 1) := by decide +kernel
theorem d_r_event_24 : decode b_r_event 24 = .ok (.if_icmp .eq 21, 3) := by decide +kernel
theorem d_r_event_27 : decode b_r_event 27 = .ok (.aload_n 0, 1) := by decide +kernel
theorem d_r_event_28 : decode b_r_event 28 = .ok (.iload_n 2, 1) := by decide +kernel
theorem d_r_event_29 : decode b_r_event 29 = .ok (.invokevirtual 61, 3) := by decide +kernel
theorem d_r_event_32 : decode b_r_event 32 = .ok (.ifCond .eq 36, 3) := by decide +kernel
theorem d_r_event_35 : decode b_r_event 35 = .ok (.aload_n 0, 1) := by decide +kernel
theorem d_r_event_36 : decode b_r_event 36 = .ok (.getfield 13, 3) := by decide +kernel
theorem d_r_event_39 : decode b_r_event 39 = .ok (.iload_n 2, 1) := by decide +kernel
theorem d_r_event_40 : decode b_r_event 40 = .ok (.iaload, 1) := by decide +kernel
theorem d_r_event_41 : decode b_r_event 41 = .ok (.iload_n 1, 1) := by decide +kernel
theorem d_r_event_42 : decode b_r_event 42 = .ok (.if_icmp .ne 26, 3) := by decide +kernel
theorem d_r_event_45 : decode b_r_event 45 = .ok (.iload_n 3, 1) := by decide +kernel
theorem d_r_event_46 : decode b_r_event 46 = .ok (.iconst (-1), 1) := by decide +kernel
theorem d_r_event_47 : decode b_r_event 47 = .ok (.if_icmp .eq 25, 3) := by decide +kernel
theorem d_r_event_50 : decode b_r_event 50 = .ok (.aload_n 0, 1) := by decide +kernel
theorem d_r_event_51 : decode b_r_event 51 = .ok (.iload_n 3, 1) := by decide +kernel
theorem d_r_event_52 : decode b_r_event 52 = .ok (.invokevirtual 61, 3) := by decide +kernel
theorem d_r_event_55 : decode b_r_event 55 = .ok (.ifCond .eq 13, 3) := by decide +kernel
theorem d_r_event_58 : decode b_r_event 58 = .ok (.aload_n 0, 1) := by decide +kernel
theorem d_r_event_59 : decode b_r_event 59 = .ok (.getfield 13, 3) := by decide +kernel
theorem d_r_event_62 : decode b_r_event 62 = .ok (.iload_n 3, 1) := by decide +kernel
theorem d_r_event_63 : decode b_r_event 63 = .ok (.iaload, 1) := by decide +kernel
theorem d_r_event_64 : decode b_r_event 64 = .ok (.iload_n 1, 1) := by decide +kernel
theorem d_r_event_65 : decode b_r_event 65 = .ok (.if_icmp .ne 7, 3) := by decide +kernel
theorem d_r_event_68 : decode b_r_event 68 = .ok (.iconst 1, 1) := by decide +kernel
theorem d_r_event_69 : decode b_r_event 69 = .ok (.goto 4, 3) := by decide +kernel
theorem d_r_event_72 : decode b_r_event 72 = .ok (.iconst 0, 1) := by decide +kernel
theorem d_r_event_73 : decode b_r_event 73 = .ok (.iconst 1, 1) := by decide +kernel
theorem d_r_event_74 : decode b_r_event 74 = .ok (.invokevirtual 54, 3) := by decide +kernel
theorem d_r_event_77 : decode b_r_event 77 = .ok (.ifCond .ne 25, 3) := by decide +kernel
theorem d_r_event_80 : decode b_r_event 80 = .ok (.aload_n 0, 1) := by decide +kernel
theorem d_r_event_81 : decode b_r_event 81 = .ok (.aload_n 0, 1) := by decide +kernel
theorem d_r_event_82 : decode b_r_event 82 = .ok (.getfield 39, 3) := by decide +kernel
theorem d_r_event_85 : decode b_r_event 85 = .ok (.bipush 120, 2) := by decide +kernel
theorem d_r_event_87 : decode b_r_event 87 = .ok (.if_icmp .ne 7, 3) := by decide +kernel
theorem d_r_event_90 : decode b_r_event 90 = .ok (.iconst 1, 1) := by decide +kernel
theorem d_r_event_91 : decode b_r_event 91 = .ok (.goto 4, 3) := by decide +kernel
theorem d_r_event_94 : decode b_r_event 94 = .ok (.iconst 0, 1) := by decide +kernel
theorem d_r_event_95 : decode b_r_event 95 = .ok (.iconst 2, 1) := by decide +kernel
theorem d_r_event_96 : decode b_r_event 96 = .ok (.invokevirtual 54, 3) := by decide +kernel
theorem d_r_event_99 : decode b_r_event 99 = .ok (.ifCond .eq 5, 3) := by decide +kernel
theorem d_r_event_102 : decode b_r_event 102 = .ok (.iconst 0, 1) := by decide +kernel
theorem d_r_event_103 : decode b_r_event 103 = .ok (.ireturn, 1) := by decide +kernel
theorem d_r_event_104 : decode b_r_event 104 = .ok (.aload_n 0, 1) := by decide +kernel
theorem d_r_event_105 : decode b_r_event 105 = .ok (.dup, 1) := by decide +kernel
theorem d_r_event_106 : decode b_r_event 106 = .ok (.getfield 39, 3) := by decide +kernel
theorem d_r_event_109 : decode b_r_event 109 = .ok (.dup_x1, 1) := by decide +kernel
theorem d_r_event_110 : decode b_r_event 110 = .ok (.iconst 1, 1) := by decide +kernel
theorem d_r_event_111 : decode b_r_event 111 = .ok (.iadd, 1) := by decide +kernel
theorem d_r_event_112 : decode b_r_event 112 = .ok (.putfield 39, 3) := by decide +kernel
theorem d_r_event_115 : decode b_r_event 115 = .ok (.istore 4, 2) := by decide +kernel
theorem d_r_event_117 : decode b_r_event 117 = .ok (.aload_n 0, 1) := by decide +kernel
theorem d_r_event_118 : decode b_r_event 118 = .ok (.getfield 13, 3) := by decide +kernel
theorem d_r_event_121 : decode b_r_event 121 = .ok (.iload 4, 2) := by decide +kernel
theorem d_r_event_123 : decode b_r_event 123 = .ok (.iload_n 1, 1) := by decide +kernel
theorem d_r_event_124 : decode b_r_event 124 = .ok (.iastore, 1) := by decide +kernel
theorem d_r_event_125 : decode b_r_event 125 = .ok (.aload_n 0, 1) := by decide +kernel
theorem d_r_event_126 : decode b_r_event 126 = .ok (.getfield 17, 3) := by decide +kernel
theorem d_r_event_129 : decode b_r_event 129 = .ok (.iload 4, 2) := by decide +kernel
theorem d_r_event_131 : decode b_r_event 131 = .ok (.iload_n 2, 1) := by decide +kernel
theorem d_r_event_132 : decode b_r_event 132 = .ok (.iastore, 1) := by decide +kernel
theorem d_r_event_133 : decode b_r_event 133 = .ok (.aload_n 0, 1) := by decide +kernel
theorem d_r_event_134 : decode b_r_event 134 = .ok (.getfield 20, 3) := by decide +kernel
theorem d_r_event_137 : decode b_r_event 137 = .ok (.iload 4, 2) := by decide +kernel
theorem d_r_event_139 : decode b_r_event 139 = .ok (.iload_n 3, 1) := by decide +kernel
theorem d_r_event_140 : decode b_r_event 140 = .ok (.iastore, 1) := by decide +kernel
theorem d_r_event_141 : decode b_r_event 141 = .ok (.aload_n 0, 1) := by decide +kernel
theorem d_r_event_142 : decode b_r_event 142 = .ok (.iload 4, 2) := by decide +kernel
theorem d_r_event_144 : decode b_r_event 144 = .ok (.invokevirtual 65, 3) := by decide +kernel
theorem d_r_event_147 : decode b_r_event 147 = .ok (.iconst 0, 1) := by decide +kernel
theorem d_r_event_148 : decode b_r_event 148 = .ok (.istore 5, 2) := by decide +kernel
theorem d_r_event_150 : decode b_r_event 150 = .ok (.iload 5, 2) := by decide +kernel
theorem d_r_event_152 : decode b_r_event 152 = .ok (.bipush 8, 2) := by decide +kernel
theorem d_r_event_154 : decode b_r_event 154 = .ok (.if_icmp .ge 23, 3) := by decide +kernel
theorem d_r_event_157 : decode b_r_event 157 = .ok (.aload_n 0, 1) := by decide +kernel
theorem d_r_event_158 : decode b_r_event 158 = .ok (.getfield 33, 3) := by decide +kernel
theorem d_r_event_161 : decode b_r_event 161 = .ok (.bipush 8, 2) := by decide +kernel
theorem d_r_event_163 : decode b_r_event 163 = .ok (.iload 4, 2) := by decide +kernel
theorem d_r_event_165 : decode b_r_event 165 = .ok (.imul, 1) := by decide +kernel
theorem d_r_event_166 : decode b_r_event 166 = .ok (.iload 5, 2) := by decide +kernel
theorem d_r_event_168 : decode b_r_event 168 = .ok (.iadd, 1) := by decide +kernel
theorem d_r_event_169 : decode b_r_event 169 = .ok (.iconst 0, 1) := by decide +kernel
theorem d_r_event_170 : decode b_r_event 170 = .ok (.bastore, 1) := by decide +kernel
theorem d_r_event_171 : decode b_r_event 171 = .ok (.iinc 5 1, 3) := by decide +kernel
theorem d_r_event_174 : decode b_r_event 174 = .ok (.goto (-24), 3) := by decide +kernel
theorem d_r_event_177 : decode b_r_event 177 = .ok (.iconst 0, 1) := by decide +kernel
theorem d_r_event_178 : decode b_r_event 178 = .ok (.istore 5, 2) := by decide +kernel
theorem d_r_event_180 : decode b_r_event 180 = .ok (.iload 5, 2) := by decide +kernel
theorem d_r_event_182 : decode b_r_event 182 = .ok (.iload 4, 2) := by decide +kernel
theorem d_r_event_184 : decode b_r_event 184 = .ok (.if_icmp .gt 101, 3) := by decide +kernel
theorem d_r_event_187 : decode b_r_event 187 = .ok (.aload_n 0, 1) := by decide +kernel
theorem d_r_event_188 : decode b_r_event 188 = .ok (.iload 5, 2) := by decide +kernel
theorem d_r_event_190 : decode b_r_event 190 = .ok (.iload 4, 2) := by decide +kernel
theorem d_r_event_192 : decode b_r_event 192 = .ok (.invokevirtual 58, 3) := by decide +kernel
theorem d_r_event_195 : decode b_r_event 195 = .ok (.ifCond .ne 6, 3) := by decide +kernel
theorem d_r_event_198 : decode b_r_event 198 = .ok (.goto 81, 3) := by decide +kernel
theorem d_r_event_201 : decode b_r_event 201 = .ok (.iconst 0, 1) := by decide +kernel
theorem d_r_event_202 : decode b_r_event 202 = .ok (.istore 6, 2) := by decide +kernel
theorem d_r_event_204 : decode b_r_event 204 = .ok (.iload 6, 2) := by decide +kernel
theorem d_r_event_206 : decode b_r_event 206 = .ok (.iload 5, 2) := by decide +kernel
theorem d_r_event_208 : decode b_r_event 208 = .ok (.if_icmp .ge 71, 3) := by decide +kernel
theorem d_r_event_211 : decode b_r_event 211 = .ok (.aload_n 0, 1) := by decide +kernel
theorem d_r_event_212 : decode b_r_event 212 = .ok (.iload 6, 2) := by decide +kernel
theorem d_r_event_214 : decode b_r_event 214 = .ok (.iload 4, 2) := by decide +kernel
theorem d_r_event_216 : decode b_r_event 216 = .ok (.invokevirtual 58, 3) := by decide +kernel
theorem d_r_event_219 : decode b_r_event 219 = .ok (.ifCond .eq 54, 3) := by decide +kernel
theorem d_r_event_222 : decode b_r_event 222 = .ok (.aload_n 0, 1) := by decide +kernel
theorem d_r_event_223 : decode b_r_event 223 = .ok (.getfield 33, 3) := by decide +kernel
theorem d_r_event_226 : decode b_r_event 226 = .ok (.bipush 8, 2) := by decide +kernel
theorem d_r_event_228 : decode b_r_event 228 = .ok (.iload 4, 2) := by decide +kernel
theorem d_r_event_230 : decode b_r_event 230 = .ok (.imul, 1) := by decide +kernel
theorem d_r_event_231 : decode b_r_event 231 = .ok (.aload_n 0, 1) := by decide +kernel
theorem d_r_event_232 : decode b_r_event 232 = .ok (.getfield 13, 3) := by decide +kernel
theorem d_r_event_235 : decode b_r_event 235 = .ok (.iload 5, 2) := by decide +kernel
theorem d_r_event_237 : decode b_r_event 237 = .ok (.iaload, 1) := by decide +kernel
theorem d_r_event_238 : decode b_r_event 238 = .ok (.iadd, 1) := by decide +kernel
theorem d_r_event_239 : decode b_r_event 239 = .ok (.baload, 1) := by decide +kernel
theorem d_r_event_240 : decode b_r_event 240 = .ok (.ifCond .ne 33, 3) := by decide +kernel
theorem d_r_event_243 : decode b_r_event 243 = .ok (.aload_n 0, 1) := by decide +kernel
theorem d_r_event_244 : decode b_r_event 244 = .ok (.iload 5, 2) := by decide +kernel
theorem d_r_event_246 : decode b_r_event 246 = .ok (.iload 6, 2) := by decide +kernel
theorem d_r_event_248 : decode b_r_event 248 = .ok (.invokevirtual 69, 3) := by decide +kernel
theorem d_r_event_251 : decode b_r_event 251 = .ok (.ifCond .eq 22, 3) := by decide +kernel
theorem d_r_event_254 : decode b_r_event 254 = .ok (.aload_n 0, 1) := by decide +kernel
theorem d_r_event_255 : decode b_r_event 255 = .ok (.getfield 33, 3) := by decide +kernel
theorem d_r_event_258 : decode b_r_event 258 = .ok (.bipush 8, 2) := by decide +kernel
theorem d_r_event_260 : decode b_r_event 260 = .ok (.iload 4, 2) := by decide +kernel
theorem d_r_event_262 : decode b_r_event 262 = .ok (.imul, 1) := by decide +kernel
theorem d_r_event_263 : decode b_r_event 263 = .ok (.aload_n 0, 1) := by decide +kernel
theorem d_r_event_264 : decode b_r_event 264 = .ok (.getfield 13, 3) := by decide +kernel
theorem d_r_event_267 : decode b_r_event 267 = .ok (.iload 5, 2) := by decide +kernel
theorem d_r_event_269 : decode b_r_event 269 = .ok (.iaload, 1) := by decide +kernel
theorem d_r_event_270 : decode b_r_event 270 = .ok (.iadd, 1) := by decide +kernel
theorem d_r_event_271 : decode b_r_event 271 = .ok (.iconst 1, 1) := by decide +kernel
theorem d_r_event_272 : decode b_r_event 272 = .ok (.bastore, 1) := by decide +kernel
theorem d_r_event_273 : decode b_r_event 273 = .ok (.iinc 6 1, 3) := by decide +kernel
theorem d_r_event_276 : decode b_r_event 276 = .ok (.goto (-72), 3) := by decide +kernel
theorem d_r_event_279 : decode b_r_event 279 = .ok (.iinc 5 1, 3) := by decide +kernel
theorem d_r_event_282 : decode b_r_event 282 = .ok (.goto (-102), 3) := by decide +kernel
theorem d_r_event_285 : decode b_r_event 285 = .ok (.aload_n 0, 1) := by decide +kernel
theorem d_r_event_286 : decode b_r_event 286 = .ok (.getfield 23, 3) := by decide +kernel
theorem d_r_event_289 : decode b_r_event 289 = .ok (.iload 4, 2) := by decide +kernel
theorem d_r_event_291 : decode b_r_event 291 = .ok (.iconst 1, 1) := by decide +kernel
theorem d_r_event_292 : decode b_r_event 292 = .ok (.iastore, 1) := by decide +kernel
theorem d_r_event_293 : decode b_r_event 293 = .ok (.iload_n 2, 1) := by decide +kernel
theorem d_r_event_294 : decode b_r_event 294 = .ok (.ifCond .ge 10, 3) := by decide +kernel
theorem d_r_event_297 : decode b_r_event 297 = .ok (.iload_n 3, 1) := by decide +kernel
theorem d_r_event_298 : decode b_r_event 298 = .ok (.ifCond .ge 6, 3) := by decide +kernel
theorem d_r_event_301 : decode b_r_event 301 = .ok (.iload 4, 2) := by decide +kernel
theorem d_r_event_303 : decode b_r_event 303 = .ok (.ireturn, 1) := by decide +kernel
theorem d_r_event_304 : decode b_r_event 304 = .ok (.iload_n 2, 1) := by decide +kernel
theorem d_r_event_305 : decode b_r_event 305 = .ok (.ifCond .ge 7, 3) := by decide +kernel
theorem d_r_event_308 : decode b_r_event 308 = .ok (.iconst 0, 1) := by decide +kernel
theorem d_r_event_309 : decode b_r_event 309 = .ok (.goto 9, 3) := by decide +kernel
theorem d_r_event_312 : decode b_r_event 312 = .ok (.aload_n 0, 1) := by decide +kernel
theorem d_r_event_313 : decode b_r_event 313 = .ok (.getfield 23, 3) := by decide +kernel
theorem d_r_event_316 : decode b_r_event 316 = .ok (.iload_n 2, 1) := by decide +kernel
theorem d_r_event_317 : decode b_r_event 317 = .ok (.iaload, 1) := by decide +kernel
theorem d_r_event_318 : decode b_r_event 318 = .ok (.iload_n 3, 1) := by decide +kernel
theorem d_r_event_319 : decode b_r_event 319 = .ok (.ifCond .ge 7, 3) := by decide +kernel
theorem d_r_event_322 : decode b_r_event 322 = .ok (.iconst 0, 1) := by decide +kernel
theorem d_r_event_323 : decode b_r_event 323 = .ok (.goto 9, 3) := by decide +kernel
theorem d_r_event_326 : decode b_r_event 326 = .ok (.aload_n 0, 1) := by decide +kernel
theorem d_r_event_327 : decode b_r_event 327 = .ok (.getfield 23, 3) := by decide +kernel
theorem d_r_event_330 : decode b_r_event 330 = .ok (.iload_n 3, 1) := by decide +kernel
theorem d_r_event_331 : decode b_r_event 331 = .ok (.iaload, 1) := by decide +kernel
theorem d_r_event_332 : decode b_r_event 332 = .ok (.invokestatic 72, 3) := by decide +kernel
theorem d_r_event_335 : decode b_r_event 335 = .ok (.istore 5, 2) := by decide +kernel
theorem d_r_event_337 : decode b_r_event 337 = .ok (.iconst 0, 1) := by decide +kernel
theorem d_r_event_338 : decode b_r_event 338 = .ok (.istore 6, 2) := by decide +kernel
theorem d_r_event_340 : decode b_r_event 340 = .ok (.iconst 0, 1) := by decide +kernel
theorem d_r_event_341 : decode b_r_event 341 = .ok (.istore 7, 2) := by decide +kernel
theorem d_r_event_343 : decode b_r_event 343 = .ok (.iload 7, 2) := by decide +kernel
theorem d_r_event_345 : decode b_r_event 345 = .ok (.aload_n 0, 1) := by decide +kernel
theorem d_r_event_346 : decode b_r_event 346 = .ok (.getfield 7, 3) := by decide +kernel
theorem d_r_event_349 : decode b_r_event 349 = .ok (.if_icmp .ge 92, 3) := by decide +kernel
theorem d_r_event_352 : decode b_r_event 352 = .ok (.iconst 0, 1) := by decide +kernel
theorem d_r_event_353 : decode b_r_event 353 = .ok (.istore 8, 2) := by decide +kernel
theorem d_r_event_355 : decode b_r_event 355 = .ok (.iconst 0, 1) := by decide +kernel
theorem d_r_event_356 : decode b_r_event 356 = .ok (.istore 9, 2) := by decide +kernel
theorem d_r_event_358 : decode b_r_event 358 = .ok (.iload 9, 2) := by decide +kernel
theorem d_r_event_360 : decode b_r_event 360 = .ok (.iload 4, 2) := by decide +kernel
theorem d_r_event_362 : decode b_r_event 362 = .ok (.if_icmp .ge 65, 3) := by decide +kernel
theorem d_r_event_365 : decode b_r_event 365 = .ok (.iload 8, 2) := by decide +kernel
theorem d_r_event_367 : decode b_r_event 367 = .ok (.ifCond .ne 60, 3) := by decide +kernel
theorem d_r_event_370 : decode b_r_event 370 = .ok (.aload_n 0, 1) := by decide +kernel
theorem d_r_event_371 : decode b_r_event 371 = .ok (.getfield 13, 3) := by decide +kernel
theorem d_r_event_374 : decode b_r_event 374 = .ok (.iload 9, 2) := by decide +kernel
theorem d_r_event_376 : decode b_r_event 376 = .ok (.iaload, 1) := by decide +kernel
theorem d_r_event_377 : decode b_r_event 377 = .ok (.iload 7, 2) := by decide +kernel
theorem d_r_event_379 : decode b_r_event 379 = .ok (.if_icmp .ne 39, 3) := by decide +kernel
theorem d_r_event_382 : decode b_r_event 382 = .ok (.aload_n 0, 1) := by decide +kernel
theorem d_r_event_383 : decode b_r_event 383 = .ok (.getfield 23, 3) := by decide +kernel
theorem d_r_event_386 : decode b_r_event 386 = .ok (.iload 9, 2) := by decide +kernel
theorem d_r_event_388 : decode b_r_event 388 = .ok (.iaload, 1) := by decide +kernel
theorem d_r_event_389 : decode b_r_event 389 = .ok (.iload 5, 2) := by decide +kernel
theorem d_r_event_391 : decode b_r_event 391 = .ok (.if_icmp .ne 27, 3) := by decide +kernel
theorem d_r_event_394 : decode b_r_event 394 = .ok (.aload_n 0, 1) := by decide +kernel
theorem d_r_event_395 : decode b_r_event 395 = .ok (.iload 9, 2) := by decide +kernel
theorem d_r_event_397 : decode b_r_event 397 = .ok (.invokevirtual 78, 3) := by decide +kernel
theorem d_r_event_400 : decode b_r_event 400 = .ok (.ifCond .eq 18, 3) := by decide +kernel
theorem d_r_event_403 : decode b_r_event 403 = .ok (.aload_n 0, 1) := by decide +kernel
theorem d_r_event_404 : decode b_r_event 404 = .ok (.iload 4, 2) := by decide +kernel
theorem d_r_event_406 : decode b_r_event 406 = .ok (.iload 9, 2) := by decide +kernel
theorem d_r_event_408 : decode b_r_event 408 = .ok (.invokevirtual 81, 3) := by decide +kernel
theorem d_r_event_411 : decode b_r_event 411 = .ok (.ifCond .eq 7, 3) := by decide +kernel
theorem d_r_event_414 : decode b_r_event 414 = .ok (.iconst 1, 1) := by decide +kernel
theorem d_r_event_415 : decode b_r_event 415 = .ok (.goto 4, 3) := by decide +kernel
theorem d_r_event_418 : decode b_r_event 418 = .ok (.iconst 0, 1) := by decide +kernel
theorem d_r_event_419 : decode b_r_event 419 = .ok (.istore 8, 2) := by decide +kernel
theorem d_r_event_421 : decode b_r_event 421 = .ok (.iinc 9 1, 3) := by decide +kernel
theorem d_r_event_424 : decode b_r_event 424 = .ok (.goto (-66), 3) := by decide +kernel
theorem d_r_event_427 : decode b_r_event 427 = .ok (.iload 8, 2) := by decide +kernel
theorem d_r_event_429 : decode b_r_event 429 = .ok (.ifCond .eq 6, 3) := by decide +kernel
theorem d_r_event_432 : decode b_r_event 432 = .ok (.iinc 6 1, 3) := by decide +kernel
theorem d_r_event_435 : decode b_r_event 435 = .ok (.iinc 7 1, 3) := by decide +kernel
theorem d_r_event_438 : decode b_r_event 438 = .ok (.goto (-95), 3) := by decide +kernel
theorem d_r_event_441 : decode b_r_event 441 = .ok (.aload_n 0, 1) := by decide +kernel
theorem d_r_event_442 : decode b_r_event 442 = .ok (.getfield 23, 3) := by decide +kernel
theorem d_r_event_445 : decode b_r_event 445 = .ok (.iload 4, 2) := by decide +kernel
theorem d_r_event_447 : decode b_r_event 447 = .ok (.iconst 3, 1) := by decide +kernel
theorem d_r_event_448 : decode b_r_event 448 = .ok (.iload 6, 2) := by decide +kernel
theorem d_r_event_450 : decode b_r_event 450 = .ok (.imul, 1) := by decide +kernel
theorem d_r_event_451 : decode b_r_event 451 = .ok (.iconst 2, 1) := by decide +kernel
theorem d_r_event_452 : decode b_r_event 452 = .ok (.aload_n 0, 1) := by decide +kernel
theorem d_r_event_453 : decode b_r_event 453 = .ok (.getfield 7, 3) := by decide +kernel
theorem d_r_event_456 : decode b_r_event 456 = .ok (.imul, 1) := by decide +kernel
theorem d_r_event_457 : decode b_r_event 457 = .ok (.if_icmp .le 10, 3) := by decide +kernel
theorem d_r_event_460 : decode b_r_event 460 = .ok (.iload 5, 2) := by decide +kernel
theorem d_r_event_462 : decode b_r_event 462 = .ok (.iconst 1, 1) := by decide +kernel
theorem d_r_event_463 : decode b_r_event 463 = .ok (.iadd, 1) := by decide +kernel
theorem d_r_event_464 : decode b_r_event 464 = .ok (.goto 5, 3) := by decide +kernel
theorem d_r_event_467 : decode b_r_event 467 = .ok (.iload 5, 2) := by decide +kernel
theorem d_r_event_469 : decode b_r_event 469 = .ok (.iastore, 1) := by decide +kernel
theorem d_r_event_470 : decode b_r_event 470 = .ok (.iload 4, 2) := by decide +kernel
theorem d_r_event_472 : decode b_r_event 472 = .ok (.ireturn, 1) := by decide +kernel
theorem d_r_isSeen_0 : decode b_r_isSeen 0 = .ok (.aload_n 0, 1) := by decide +kernel
theorem d_r_isSeen_1 : decode b_r_isSeen 1 = .ok (.iload_n 2, 1) := by decide +kernel
theorem d_r_isSeen_2 : decode b_r_isSeen 2 = .ok (.iload_n 1, 1) := by decide +kernel
theorem d_r_isSeen_3 : decode b_r_isSeen 3 = .ok (.invokevirtual 58, 3) := by decide +kernel
theorem d_r_isSeen_6 : decode b_r_isSeen 6 = .ok (.ifCond .eq 26, 3) := by decide +kernel
theorem d_r_isSeen_9 : decode b_r_isSeen 9 = .ok (.aload_n 0, 1) := by decide +kernel
theorem d_r_isSeen_10 : decode b_r_isSeen 10 = .ok (.getfield 33, 3) := by decide +kernel
theorem d_r_isSeen_13 : decode b_r_isSeen 13 = .ok (.bipush 8, 2) := by decide +kernel
theorem d_r_isSeen_15 : decode b_r_isSeen 15 = .ok (.iload_n 1, 1) := by decide +kernel
theorem d_r_isSeen_16 : decode b_r_isSeen 16 = .ok (.imul, 1) := by decide +kernel
theorem d_r_isSeen_17 : decode b_r_isSeen 17 = .ok (.aload_n 0, 1) := by decide +kernel
theorem d_r_isSeen_18 : decode b_r_isSeen 18 = .ok (.getfield 13, 3) := by decide +kernel
theorem d_r_isSeen_21 : decode b_r_isSeen 21 = .ok (.iload_n 2, 1) := by decide +kernel
theorem d_r_isSeen_22 : decode b_r_isSeen 22 = .ok (.iaload, 1) := by decide +kernel
theorem d_r_isSeen_23 : decode b_r_isSeen 23 = .ok (.iadd, 1) := by decide +kernel
theorem d_r_isSeen_24 : decode b_r_isSeen 24 = .ok (.baload, 1) := by decide +kernel
theorem d_r_isSeen_25 : decode b_r_isSeen 25 = .ok (.ifCond .ne 7, 3) := by decide +kernel
theorem d_r_isSeen_28 : decode b_r_isSeen 28 = .ok (.iconst 1, 1) := by decide +kernel
theorem d_r_isSeen_29 : decode b_r_isSeen 29 = .ok (.goto 4, 3) := by decide +kernel
theorem d_r_isSeen_32 : decode b_r_isSeen 32 = .ok (.iconst 0, 1) := by decide +kernel
theorem d_r_isSeen_33 : decode b_r_isSeen 33 = .ok (.ireturn, 1) := by decide +kernel
theorem d_r_strengthOf_0 : decode b_r_strengthOf 0 = .ok (.iconst 0, 1) := by decide +kernel
theorem d_r_strengthOf_1 : decode b_r_strengthOf 1 = .ok (.istore_n 3, 1) := by decide +kernel
theorem d_r_strengthOf_2 : decode b_r_strengthOf 2 = .ok (.iconst 0, 1) := by decide +kernel
theorem d_r_strengthOf_3 : decode b_r_strengthOf 3 = .ok (.istore 4, 2) := by decide +kernel
theorem d_r_strengthOf_5 : decode b_r_strengthOf 5 = .ok (.iload 4, 2) := by decide +kernel
theorem d_r_strengthOf_7 : decode b_r_strengthOf 7 = .ok (.aload_n 0, 1) := by decide +kernel
theorem d_r_strengthOf_8 : decode b_r_strengthOf 8 = .ok (.getfield 7, 3) := by decide +kernel
theorem d_r_strengthOf_11 : decode b_r_strengthOf 11 = .ok (.if_icmp .ge 79, 3) := by decide +kernel
theorem d_r_strengthOf_14 : decode b_r_strengthOf 14 = .ok (.iconst 0, 1) := by decide +kernel
theorem d_r_strengthOf_15 : decode b_r_strengthOf 15 = .ok (.istore 5, 2) := by decide +kernel
theorem d_r_strengthOf_17 : decode b_r_strengthOf 17 = .ok (.iconst 0, 1) := by decide +kernel
theorem d_r_strengthOf_18 : decode b_r_strengthOf 18 = .ok (.istore 6, 2) := by decide +kernel
theorem d_r_strengthOf_20 : decode b_r_strengthOf 20 = .ok (.iload 6, 2) := by decide +kernel
theorem d_r_strengthOf_22 : decode b_r_strengthOf 22 = .ok (.iload_n 1, 1) := by decide +kernel
theorem d_r_strengthOf_23 : decode b_r_strengthOf 23 = .ok (.if_icmp .gt 53, 3) := by decide +kernel
theorem d_r_strengthOf_26 : decode b_r_strengthOf 26 = .ok (.iload 5, 2) := by decide +kernel
theorem d_r_strengthOf_28 : decode b_r_strengthOf 28 = .ok (.ifCond .ne 48, 3) := by decide +kernel
theorem d_r_strengthOf_31 : decode b_r_strengthOf 31 = .ok (.aload_n 0, 1) := by decide +kernel
theorem d_r_strengthOf_32 : decode b_r_strengthOf 32 = .ok (.getfield 13, 3) := by decide +kernel
theorem d_r_strengthOf_35 : decode b_r_strengthOf 35 = .ok (.iload 6, 2) := by decide +kernel
theorem d_r_strengthOf_37 : decode b_r_strengthOf 37 = .ok (.iaload, 1) := by decide +kernel
theorem d_r_strengthOf_38 : decode b_r_strengthOf 38 = .ok (.iload 4, 2) := by decide +kernel
theorem d_r_strengthOf_40 : decode b_r_strengthOf 40 = .ok (.if_icmp .ne 27, 3) := by decide +kernel
theorem d_r_strengthOf_43 : decode b_r_strengthOf 43 = .ok (.aload_n 0, 1) := by decide +kernel
theorem d_r_strengthOf_44 : decode b_r_strengthOf 44 = .ok (.iload_n 1, 1) := by decide +kernel
theorem d_r_strengthOf_45 : decode b_r_strengthOf 45 = .ok (.iload 6, 2) := by decide +kernel
theorem d_r_strengthOf_47 : decode b_r_strengthOf 47 = .ok (.invokevirtual 84, 3) := by decide +kernel
theorem d_r_strengthOf_50 : decode b_r_strengthOf 50 = .ok (.ifCond .eq 17, 3) := by decide +kernel
theorem d_r_strengthOf_53 : decode b_r_strengthOf 53 = .ok (.aload_n 0, 1) := by decide +kernel
theorem d_r_strengthOf_54 : decode b_r_strengthOf 54 = .ok (.iload 6, 2) := by decide +kernel
theorem d_r_strengthOf_56 : decode b_r_strengthOf 56 = .ok (.iload_n 2, 1) := by decide +kernel
theorem d_r_strengthOf_57 : decode b_r_strengthOf 57 = .ok (.invokevirtual 84, 3) := by decide +kernel
theorem d_r_strengthOf_60 : decode b_r_strengthOf 60 = .ok (.ifCond .eq 7, 3) := by decide +kernel
theorem d_r_strengthOf_63 : decode b_r_strengthOf 63 = .ok (.iconst 1, 1) := by decide +kernel
theorem d_r_strengthOf_64 : decode b_r_strengthOf 64 = .ok (.goto 4, 3) := by decide +kernel
theorem d_r_strengthOf_67 : decode b_r_strengthOf 67 = .ok (.iconst 0, 1) := by decide +kernel
theorem d_r_strengthOf_68 : decode b_r_strengthOf 68 = .ok (.istore 5, 2) := by decide +kernel
theorem d_r_strengthOf_70 : decode b_r_strengthOf 70 = .ok (.iinc 6 1, 3) := by decide +kernel
theorem d_r_strengthOf_73 : decode b_r_strengthOf 73 = .ok (.goto (-53), 3) := by decide +kernel
theorem d_r_strengthOf_76 : decode b_r_strengthOf 76 = .ok (.iload 5, 2) := by decide +kernel
theorem d_r_strengthOf_78 : decode b_r_strengthOf 78 = .ok (.ifCond .eq 6, 3) := by decide +kernel
theorem d_r_strengthOf_81 : decode b_r_strengthOf 81 = .ok (.iinc 3 1, 3) := by decide +kernel
theorem d_r_strengthOf_84 : decode b_r_strengthOf 84 = .ok (.iinc 4 1, 3) := by decide +kernel
theorem d_r_strengthOf_87 : decode b_r_strengthOf 87 = .ok (.goto (-82), 3) := by decide +kernel
theorem d_r_strengthOf_90 : decode b_r_strengthOf 90 = .ok (.iload_n 3, 1) := by decide +kernel
theorem d_r_strengthOf_91 : decode b_r_strengthOf 91 = .ok (.ireturn, 1) := by decide +kernel
theorem d_r_isStrong_0 : decode b_r_isStrong 0 = .ok (.iconst 3, 1) := by decide +kernel
theorem d_r_isStrong_1 : decode b_r_isStrong 1 = .ok (.aload_n 0, 1) := by decide +kernel
theorem d_r_isStrong_2 : decode b_r_isStrong 2 = .ok (.iload_n 1, 1) := by decide +kernel
theorem d_r_isStrong_3 : decode b_r_isStrong 3 = .ok (.iload_n 2, 1) := by decide +kernel
theorem d_r_isStrong_4 : decode b_r_isStrong 4 = .ok (.invokevirtual 87, 3) := by decide +kernel
theorem d_r_isStrong_7 : decode b_r_isStrong 7 = .ok (.imul, 1) := by decide +kernel
theorem d_r_isStrong_8 : decode b_r_isStrong 8 = .ok (.iconst 2, 1) := by decide +kernel
theorem d_r_isStrong_9 : decode b_r_isStrong 9 = .ok (.aload_n 0, 1) := by decide +kernel
theorem d_r_isStrong_10 : decode b_r_isStrong 10 = .ok (.getfield 7, 3) := by decide +kernel
theorem d_r_isStrong_13 : decode b_r_isStrong 13 = .ok (.imul, 1) := by decide +kernel
theorem d_r_isStrong_14 : decode b_r_isStrong 14 = .ok (.if_icmp .le 7, 3) := by decide +kernel
theorem d_r_isStrong_17 : decode b_r_isStrong 17 = .ok (.iconst 1, 1) := by decide +kernel
theorem d_r_isStrong_18 : decode b_r_isStrong 18 = .ok (.goto 4, 3) := by decide +kernel
theorem d_r_isStrong_21 : decode b_r_isStrong 21 = .ok (.iconst 0, 1) := by decide +kernel
theorem d_r_isStrong_22 : decode b_r_isStrong 22 = .ok (.ireturn, 1) := by decide +kernel
theorem d_r_isWitness_0 : decode b_r_isWitness 0 = .ok (.aload_n 0, 1) := by decide +kernel
theorem d_r_isWitness_1 : decode b_r_isWitness 1 = .ok (.getfield 17, 3) := by decide +kernel
theorem d_r_isWitness_4 : decode b_r_isWitness 4 = .ok (.iload_n 1, 1) := by decide +kernel
theorem d_r_isWitness_5 : decode b_r_isWitness 5 = .ok (.iaload, 1) := by decide +kernel
theorem d_r_isWitness_6 : decode b_r_isWitness 6 = .ok (.ifCond .lt 23, 3) := by decide +kernel
theorem d_r_isWitness_9 : decode b_r_isWitness 9 = .ok (.aload_n 0, 1) := by decide +kernel
theorem d_r_isWitness_10 : decode b_r_isWitness 10 = .ok (.getfield 23, 3) := by decide +kernel
theorem d_r_isWitness_13 : decode b_r_isWitness 13 = .ok (.aload_n 0, 1) := by decide +kernel
theorem d_r_isWitness_14 : decode b_r_isWitness 14 = .ok (.getfield 17, 3) := by decide +kernel
theorem d_r_isWitness_17 : decode b_r_isWitness 17 = .ok (.iload_n 1, 1) := by decide +kernel
theorem d_r_isWitness_18 : decode b_r_isWitness 18 = .ok (.iaload, 1) := by decide +kernel
theorem d_r_isWitness_19 : decode b_r_isWitness 19 = .ok (.iaload, 1) := by decide +kernel
theorem d_r_isWitness_20 : decode b_r_isWitness 20 = .ok (.aload_n 0, 1) := by decide +kernel
theorem d_r_isWitness_21 : decode b_r_isWitness 21 = .ok (.getfield 23, 3) := by decide +kernel
theorem d_r_isWitness_24 : decode b_r_isWitness 24 = .ok (.iload_n 1, 1) := by decide +kernel
theorem d_r_isWitness_25 : decode b_r_isWitness 25 = .ok (.iaload, 1) := by decide +kernel
theorem d_r_isWitness_26 : decode b_r_isWitness 26 = .ok (.if_icmp .ge 7, 3) := by decide +kernel
theorem d_r_isWitness_29 : decode b_r_isWitness 29 = .ok (.iconst 1, 1) := by decide +kernel
theorem d_r_isWitness_30 : decode b_r_isWitness 30 = .ok (.goto 4, 3) := by decide +kernel
theorem d_r_isWitness_33 : decode b_r_isWitness 33 = .ok (.iconst 0, 1) := by decide +kernel
theorem d_r_isWitness_34 : decode b_r_isWitness 34 = .ok (.ireturn, 1) := by decide +kernel
theorem d_r_ancestor_0 : decode b_r_ancestor 0 = .ok (.aload_n 0, 1) := by decide +kernel
theorem d_r_ancestor_1 : decode b_r_ancestor 1 = .ok (.iconst 0, 1) := by decide +kernel
theorem d_r_ancestor_2 : decode b_r_ancestor 2 = .ok (.putfield 36, 3) := by decide +kernel
theorem d_r_ancestor_5 : decode b_r_ancestor 5 = .ok (.aload_n 0, 1) := by decide +kernel
theorem d_r_ancestor_6 : decode b_r_ancestor 6 = .ok (.aload_n 0, 1) := by decide +kernel
theorem d_r_ancestor_7 : decode b_r_ancestor 7 = .ok (.iload_n 1, 1) := by decide +kernel
theorem d_r_ancestor_8 : decode b_r_ancestor 8 = .ok (.invokevirtual 61, 3) := by decide +kernel
theorem d_r_ancestor_11 : decode b_r_ancestor 11 = .ok (.ifCond .eq 11, 3) := by decide +kernel
theorem d_r_ancestor_14 : decode b_r_ancestor 14 = .ok (.aload_n 0, 1) := by decide +kernel
theorem d_r_ancestor_15 : decode b_r_ancestor 15 = .ok (.iload_n 2, 1) := by decide +kernel
theorem d_r_ancestor_16 : decode b_r_ancestor 16 = .ok (.invokevirtual 61, 3) := by decide +kernel
theorem d_r_ancestor_19 : decode b_r_ancestor 19 = .ok (.ifCond .ne 7, 3) := by decide +kernel
theorem d_r_ancestor_22 : decode b_r_ancestor 22 = .ok (.iconst 1, 1) := by decide +kernel
theorem d_r_ancestor_23 : decode b_r_ancestor 23 = .ok (.goto 4, 3) := by decide +kernel
theorem d_r_ancestor_26 : decode b_r_ancestor 26 = .ok (.iconst 0, 1) := by decide +kernel
theorem d_r_ancestor_27 : decode b_r_ancestor 27 = .ok (.iconst 1, 1) := by decide +kernel
theorem d_r_ancestor_28 : decode b_r_ancestor 28 = .ok (.invokevirtual 54, 3) := by decide +kernel
theorem d_r_ancestor_31 : decode b_r_ancestor 31 = .ok (.ifCond .ne 16, 3) := by decide +kernel
theorem d_r_ancestor_34 : decode b_r_ancestor 34 = .ok (.aload_n 0, 1) := by decide +kernel
theorem d_r_ancestor_35 : decode b_r_ancestor 35 = .ok (.iload_n 2, 1) := by decide +kernel
theorem d_r_ancestor_36 : decode b_r_ancestor 36 = .ok (.iload_n 1, 1) := by decide +kernel
theorem d_r_ancestor_37 : decode b_r_ancestor 37 = .ok (.invokevirtual 58, 3) := by decide +kernel
theorem d_r_ancestor_40 : decode b_r_ancestor 40 = .ok (.ifCond .eq 7, 3) := by decide +kernel
theorem d_r_ancestor_43 : decode b_r_ancestor 43 = .ok (.iconst 1, 1) := by decide +kernel
theorem d_r_ancestor_44 : decode b_r_ancestor 44 = .ok (.goto 4, 3) := by decide +kernel
theorem d_r_ancestor_47 : decode b_r_ancestor 47 = .ok (.iconst 0, 1) := by decide +kernel
theorem d_r_ancestor_48 : decode b_r_ancestor 48 = .ok (.ireturn, 1) := by decide +kernel
theorem d_r_own_0 : decode b_r_own 0 = .ok (.aload_n 0, 1) := by decide +kernel
theorem d_r_own_1 : decode b_r_own 1 = .ok (.iconst 0, 1) := by decide +kernel
theorem d_r_own_2 : decode b_r_own 2 = .ok (.putfield 36, 3) := by decide +kernel
theorem d_r_own_5 : decode b_r_own 5 = .ok (.aload_n 0, 1) := by decide +kernel
theorem d_r_own_6 : decode b_r_own 6 = .ok (.aload_n 0, 1) := by decide +kernel
theorem d_r_own_7 : decode b_r_own 7 = .ok (.iload_n 1, 1) := by decide +kernel
theorem d_r_own_8 : decode b_r_own 8 = .ok (.invokevirtual 61, 3) := by decide +kernel
theorem d_r_own_11 : decode b_r_own 11 = .ok (.ifCond .eq 11, 3) := by decide +kernel
theorem d_r_own_14 : decode b_r_own 14 = .ok (.aload_n 0, 1) := by decide +kernel
theorem d_r_own_15 : decode b_r_own 15 = .ok (.iload_n 2, 1) := by decide +kernel
theorem d_r_own_16 : decode b_r_own 16 = .ok (.invokevirtual 61, 3) := by decide +kernel
theorem d_r_own_19 : decode b_r_own 19 = .ok (.ifCond .ne 7, 3) := by decide +kernel
theorem d_r_own_22 : decode b_r_own 22 = .ok (.iconst 1, 1) := by decide +kernel
theorem d_r_own_23 : decode b_r_own 23 = .ok (.goto 4, 3) := by decide +kernel
theorem d_r_own_26 : decode b_r_own 26 = .ok (.iconst 0, 1) := by decide +kernel
theorem d_r_own_27 : decode b_r_own 27 = .ok (.iconst 1, 1) := by decide +kernel
theorem d_r_own_28 : decode b_r_own 28 = .ok (.invokevirtual 54, 3) := by decide +kernel
theorem d_r_own_31 : decode b_r_own 31 = .ok (.ifCond .ne 16, 3) := by decide +kernel
theorem d_r_own_34 : decode b_r_own 34 = .ok (.aload_n 0, 1) := by decide +kernel
theorem d_r_own_35 : decode b_r_own 35 = .ok (.iload_n 1, 1) := by decide +kernel
theorem d_r_own_36 : decode b_r_own 36 = .ok (.iload_n 2, 1) := by decide +kernel
theorem d_r_own_37 : decode b_r_own 37 = .ok (.invokevirtual 46, 3) := by decide +kernel
theorem d_r_own_40 : decode b_r_own 40 = .ok (.ifCond .eq 7, 3) := by decide +kernel
theorem d_r_own_43 : decode b_r_own 43 = .ok (.iconst 1, 1) := by decide +kernel
theorem d_r_own_44 : decode b_r_own 44 = .ok (.goto 4, 3) := by decide +kernel
theorem d_r_own_47 : decode b_r_own 47 = .ok (.iconst 0, 1) := by decide +kernel
theorem d_r_own_48 : decode b_r_own 48 = .ok (.ireturn, 1) := by decide +kernel
theorem d_r_forked_0 : decode b_r_forked 0 = .ok (.aload_n 0, 1) := by decide +kernel
theorem d_r_forked_1 : decode b_r_forked 1 = .ok (.iconst 0, 1) := by decide +kernel
theorem d_r_forked_2 : decode b_r_forked 2 = .ok (.putfield 36, 3) := by decide +kernel
theorem d_r_forked_5 : decode b_r_forked 5 = .ok (.aload_n 0, 1) := by decide +kernel
theorem d_r_forked_6 : decode b_r_forked 6 = .ok (.iload_n 2, 1) := by decide +kernel
theorem d_r_forked_7 : decode b_r_forked 7 = .ok (.i2l, 1) := by decide +kernel
theorem d_r_forked_8 : decode b_r_forked 8 = .ok (.lconst 0, 1) := by decide +kernel
theorem d_r_forked_9 : decode b_r_forked 9 = .ok (.aload_n 0, 1) := by decide +kernel
theorem d_r_forked_10 : decode b_r_forked 10 = .ok (.getfield 7, 3) := by decide +kernel
theorem d_r_forked_13 : decode b_r_forked 13 = .ok (.iconst 1, 1) := by decide +kernel
theorem d_r_forked_14 : decode b_r_forked 14 = .ok (.isub, 1) := by decide +kernel
theorem d_r_forked_15 : decode b_r_forked 15 = .ok (.i2l, 1) := by decide +kernel
theorem d_r_forked_16 : decode b_r_forked 16 = .ok (.invokestatic 42, 3) := by decide +kernel
theorem d_r_forked_19 : decode b_r_forked 19 = .ok (.ifCond .ne 7, 3) := by decide +kernel
theorem d_r_forked_22 : decode b_r_forked 22 = .ok (.iconst 1, 1) := by decide +kernel
theorem d_r_forked_23 : decode b_r_forked 23 = .ok (.goto 4, 3) := by decide +kernel
theorem d_r_forked_26 : decode b_r_forked 26 = .ok (.iconst 0, 1) := by decide +kernel
theorem d_r_forked_27 : decode b_r_forked 27 = .ok (.iconst 1, 1) := by decide +kernel
theorem d_r_forked_28 : decode b_r_forked 28 = .ok (.invokevirtual 54, 3) := by decide +kernel
theorem d_r_forked_31 : decode b_r_forked 31 = .ok (.ifCond .ne 42, 3) := by decide +kernel
theorem d_r_forked_34 : decode b_r_forked 34 = .ok (.aload_n 0, 1) := by decide +kernel
theorem d_r_forked_35 : decode b_r_forked 35 = .ok (.aload_n 0, 1) := by decide +kernel
theorem d_r_forked_36 : decode b_r_forked 36 = .ok (.iload_n 1, 1) := by decide +kernel
theorem d_r_forked_37 : decode b_r_forked 37 = .ok (.invokevirtual 61, 3) := by decide +kernel
theorem d_r_forked_40 : decode b_r_forked 40 = .ok (.ifCond .ne 7, 3) := by decide +kernel
theorem d_r_forked_43 : decode b_r_forked 43 = .ok (.iconst 1, 1) := by decide +kernel
theorem d_r_forked_44 : decode b_r_forked 44 = .ok (.goto 4, 3) := by decide +kernel
theorem d_r_forked_47 : decode b_r_forked 47 = .ok (.iconst 0, 1) := by decide +kernel
theorem d_r_forked_48 : decode b_r_forked 48 = .ok (.iconst 2, 1) := by decide +kernel
theorem d_r_forked_49 : decode b_r_forked 49 = .ok (.invokevirtual 54, 3) := by decide +kernel
theorem d_r_forked_52 : decode b_r_forked 52 = .ok (.ifCond .ne 21, 3) := by decide +kernel
theorem d_r_forked_55 : decode b_r_forked 55 = .ok (.aload_n 0, 1) := by decide +kernel
theorem d_r_forked_56 : decode b_r_forked 56 = .ok (.getfield 33, 3) := by decide +kernel
theorem d_r_forked_59 : decode b_r_forked 59 = .ok (.bipush 8, 2) := by decide +kernel
theorem d_r_forked_61 : decode b_r_forked 61 = .ok (.iload_n 1, 1) := by decide +kernel
theorem d_r_forked_62 : decode b_r_forked 62 = .ok (.imul, 1) := by decide +kernel
theorem d_r_forked_63 : decode b_r_forked 63 = .ok (.iload_n 2, 1) := by decide +kernel
theorem d_r_forked_64 : decode b_r_forked 64 = .ok (.iadd, 1) := by decide +kernel
theorem d_r_forked_65 : decode b_r_forked 65 = .ok (.baload, 1) := by decide +kernel
theorem d_r_forked_66 : decode b_r_forked 66 = .ok (.ifCond .eq 7, 3) := by decide +kernel
theorem d_r_forked_69 : decode b_r_forked 69 = .ok (.iconst 1, 1) := by decide +kernel
theorem d_r_forked_70 : decode b_r_forked 70 = .ok (.goto 4, 3) := by decide +kernel
theorem d_r_forked_73 : decode b_r_forked 73 = .ok (.iconst 0, 1) := by decide +kernel
theorem d_r_forked_74 : decode b_r_forked 74 = .ok (.ireturn, 1) := by decide +kernel
theorem d_r_sees_0 : decode b_r_sees 0 = .ok (.aload_n 0, 1) := by decide +kernel
theorem d_r_sees_1 : decode b_r_sees 1 = .ok (.iconst 0, 1) := by decide +kernel
theorem d_r_sees_2 : decode b_r_sees 2 = .ok (.putfield 36, 3) := by decide +kernel
theorem d_r_sees_5 : decode b_r_sees 5 = .ok (.aload_n 0, 1) := by decide +kernel
theorem d_r_sees_6 : decode b_r_sees 6 = .ok (.aload_n 0, 1) := by decide +kernel
theorem d_r_sees_7 : decode b_r_sees 7 = .ok (.iload_n 1, 1) := by decide +kernel
theorem d_r_sees_8 : decode b_r_sees 8 = .ok (.invokevirtual 61, 3) := by decide +kernel
theorem d_r_sees_11 : decode b_r_sees 11 = .ok (.ifCond .eq 11, 3) := by decide +kernel
theorem d_r_sees_14 : decode b_r_sees 14 = .ok (.aload_n 0, 1) := by decide +kernel
theorem d_r_sees_15 : decode b_r_sees 15 = .ok (.iload_n 2, 1) := by decide +kernel
theorem d_r_sees_16 : decode b_r_sees 16 = .ok (.invokevirtual 61, 3) := by decide +kernel
theorem d_r_sees_19 : decode b_r_sees 19 = .ok (.ifCond .ne 7, 3) := by decide +kernel
theorem d_r_sees_22 : decode b_r_sees 22 = .ok (.iconst 1, 1) := by decide +kernel
theorem d_r_sees_23 : decode b_r_sees 23 = .ok (.goto 4, 3) := by decide +kernel
theorem d_r_sees_26 : decode b_r_sees 26 = .ok (.iconst 0, 1) := by decide +kernel
theorem d_r_sees_27 : decode b_r_sees 27 = .ok (.iconst 1, 1) := by decide +kernel
theorem d_r_sees_28 : decode b_r_sees 28 = .ok (.invokevirtual 54, 3) := by decide +kernel
theorem d_r_sees_31 : decode b_r_sees 31 = .ok (.ifCond .ne 16, 3) := by decide +kernel
theorem d_r_sees_34 : decode b_r_sees 34 = .ok (.aload_n 0, 1) := by decide +kernel
theorem d_r_sees_35 : decode b_r_sees 35 = .ok (.iload_n 1, 1) := by decide +kernel
theorem d_r_sees_36 : decode b_r_sees 36 = .ok (.iload_n 2, 1) := by decide +kernel
theorem d_r_sees_37 : decode b_r_sees 37 = .ok (.invokevirtual 84, 3) := by decide +kernel
theorem d_r_sees_40 : decode b_r_sees 40 = .ok (.ifCond .eq 7, 3) := by decide +kernel
theorem d_r_sees_43 : decode b_r_sees 43 = .ok (.iconst 1, 1) := by decide +kernel
theorem d_r_sees_44 : decode b_r_sees 44 = .ok (.goto 4, 3) := by decide +kernel
theorem d_r_sees_47 : decode b_r_sees 47 = .ok (.iconst 0, 1) := by decide +kernel
theorem d_r_sees_48 : decode b_r_sees 48 = .ok (.ireturn, 1) := by decide +kernel
theorem d_r_strength_0 : decode b_r_strength 0 = .ok (.aload_n 0, 1) := by decide +kernel
theorem d_r_strength_1 : decode b_r_strength 1 = .ok (.iconst 0, 1) := by decide +kernel
theorem d_r_strength_2 : decode b_r_strength 2 = .ok (.putfield 36, 3) := by decide +kernel
theorem d_r_strength_5 : decode b_r_strength 5 = .ok (.aload_n 0, 1) := by decide +kernel
theorem d_r_strength_6 : decode b_r_strength 6 = .ok (.aload_n 0, 1) := by decide +kernel
theorem d_r_strength_7 : decode b_r_strength 7 = .ok (.iload_n 1, 1) := by decide +kernel
theorem d_r_strength_8 : decode b_r_strength 8 = .ok (.invokevirtual 61, 3) := by decide +kernel
theorem d_r_strength_11 : decode b_r_strength 11 = .ok (.ifCond .eq 11, 3) := by decide +kernel
theorem d_r_strength_14 : decode b_r_strength 14 = .ok (.aload_n 0, 1) := by decide +kernel
theorem d_r_strength_15 : decode b_r_strength 15 = .ok (.iload_n 2, 1) := by decide +kernel
theorem d_r_strength_16 : decode b_r_strength 16 = .ok (.invokevirtual 61, 3) := by decide +kernel
theorem d_r_strength_19 : decode b_r_strength 19 = .ok (.ifCond .ne 7, 3) := by decide +kernel
theorem d_r_strength_22 : decode b_r_strength 22 = .ok (.iconst 1, 1) := by decide +kernel
theorem d_r_strength_23 : decode b_r_strength 23 = .ok (.goto 4, 3) := by decide +kernel
theorem d_r_strength_26 : decode b_r_strength 26 = .ok (.iconst 0, 1) := by decide +kernel
theorem d_r_strength_27 : decode b_r_strength 27 = .ok (.iconst 1, 1) := by decide +kernel
theorem d_r_strength_28 : decode b_r_strength 28 = .ok (.invokevirtual 54, 3) := by decide +kernel
theorem d_r_strength_31 : decode b_r_strength 31 = .ok (.ifCond .eq 7, 3) := by decide +kernel
theorem d_r_strength_34 : decode b_r_strength 34 = .ok (.iconst 0, 1) := by decide +kernel
theorem d_r_strength_35 : decode b_r_strength 35 = .ok (.goto 9, 3) := by decide +kernel
theorem d_r_strength_38 : decode b_r_strength 38 = .ok (.aload_n 0, 1) := by decide +kernel
theorem d_r_strength_39 : decode b_r_strength 39 = .ok (.iload_n 1, 1) := by decide +kernel
theorem d_r_strength_40 : decode b_r_strength 40 = .ok (.iload_n 2, 1) := by decide +kernel
theorem d_r_strength_41 : decode b_r_strength 41 = .ok (.invokevirtual 87, 3) := by decide +kernel
theorem d_r_strength_44 : decode b_r_strength 44 = .ok (.ireturn, 1) := by decide +kernel
theorem d_r_strongly_0 : decode b_r_strongly 0 = .ok (.aload_n 0, 1) := by decide +kernel
theorem d_r_strongly_1 : decode b_r_strongly 1 = .ok (.iconst 0, 1) := by decide +kernel
theorem d_r_strongly_2 : decode b_r_strongly 2 = .ok (.putfield 36, 3) := by decide +kernel
theorem d_r_strongly_5 : decode b_r_strongly 5 = .ok (.aload_n 0, 1) := by decide +kernel
theorem d_r_strongly_6 : decode b_r_strongly 6 = .ok (.aload_n 0, 1) := by decide +kernel
theorem d_r_strongly_7 : decode b_r_strongly 7 = .ok (.iload_n 1, 1) := by decide +kernel
theorem d_r_strongly_8 : decode b_r_strongly 8 = .ok (.invokevirtual 61, 3) := by decide +kernel
theorem d_r_strongly_11 : decode b_r_strongly 11 = .ok (.ifCond .eq 11, 3) := by decide +kernel
theorem d_r_strongly_14 : decode b_r_strongly 14 = .ok (.aload_n 0, 1) := by decide +kernel
theorem d_r_strongly_15 : decode b_r_strongly 15 = .ok (.iload_n 2, 1) := by decide +kernel
theorem d_r_strongly_16 : decode b_r_strongly 16 = .ok (.invokevirtual 61, 3) := by decide +kernel
theorem d_r_strongly_19 : decode b_r_strongly 19 = .ok (.ifCond .ne 7, 3) := by decide +kernel
theorem d_r_strongly_22 : decode b_r_strongly 22 = .ok (.iconst 1, 1) := by decide +kernel
theorem d_r_strongly_23 : decode b_r_strongly 23 = .ok (.goto 4, 3) := by decide +kernel
theorem d_r_strongly_26 : decode b_r_strongly 26 = .ok (.iconst 0, 1) := by decide +kernel
theorem d_r_strongly_27 : decode b_r_strongly 27 = .ok (.iconst 1, 1) := by decide +kernel
theorem d_r_strongly_28 : decode b_r_strongly 28 = .ok (.invokevirtual 54, 3) := by decide +kernel
theorem d_r_strongly_31 : decode b_r_strongly 31 = .ok (.ifCond .ne 16, 3) := by decide +kernel
theorem d_r_strongly_34 : decode b_r_strongly 34 = .ok (.aload_n 0, 1) := by decide +kernel
theorem d_r_strongly_35 : decode b_r_strongly 35 = .ok (.iload_n 1, 1) := by decide +kernel
theorem d_r_strongly_36 : decode b_r_strongly 36 = .ok (.iload_n 2, 1) := by decide +kernel
theorem d_r_strongly_37 : decode b_r_strongly 37 = .ok (.invokevirtual 81, 3) := by decide +kernel
theorem d_r_strongly_40 : decode b_r_strongly 40 = .ok (.ifCond .eq 7, 3) := by decide +kernel
theorem d_r_strongly_43 : decode b_r_strongly 43 = .ok (.iconst 1, 1) := by decide +kernel
theorem d_r_strongly_44 : decode b_r_strongly 44 = .ok (.goto 4, 3) := by decide +kernel
theorem d_r_strongly_47 : decode b_r_strongly 47 = .ok (.iconst 0, 1) := by decide +kernel
theorem d_r_strongly_48 : decode b_r_strongly 48 = .ok (.ireturn, 1) := by decide +kernel
theorem d_r_round_0 : decode b_r_round 0 = .ok (.aload_n 0, 1) := by decide +kernel
theorem d_r_round_1 : decode b_r_round 1 = .ok (.iconst 0, 1) := by decide +kernel
theorem d_r_round_2 : decode b_r_round 2 = .ok (.putfield 36, 3) := by decide +kernel
theorem d_r_round_5 : decode b_r_round 5 = .ok (.aload_n 0, 1) := by decide +kernel
theorem d_r_round_6 : decode b_r_round 6 = .ok (.aload_n 0, 1) := by decide +kernel
theorem d_r_round_7 : decode b_r_round 7 = .ok (.iload_n 1, 1) := by decide +kernel
theorem d_r_round_8 : decode b_r_round 8 = .ok (.invokevirtual 61, 3) := by decide +kernel
theorem d_r_round_11 : decode b_r_round 11 = .ok (.ifCond .ne 7, 3) := by decide +kernel
theorem d_r_round_14 : decode b_r_round 14 = .ok (.iconst 1, 1) := by decide +kernel
theorem d_r_round_15 : decode b_r_round 15 = .ok (.goto 4, 3) := by decide +kernel
theorem d_r_round_18 : decode b_r_round 18 = .ok (.iconst 0, 1) := by decide +kernel
theorem d_r_round_19 : decode b_r_round 19 = .ok (.iconst 1, 1) := by decide +kernel
theorem d_r_round_20 : decode b_r_round 20 = .ok (.invokevirtual 54, 3) := by decide +kernel
theorem d_r_round_23 : decode b_r_round 23 = .ok (.ifCond .eq 7, 3) := by decide +kernel
theorem d_r_round_26 : decode b_r_round 26 = .ok (.iconst 0, 1) := by decide +kernel
theorem d_r_round_27 : decode b_r_round 27 = .ok (.goto 9, 3) := by decide +kernel
theorem d_r_round_30 : decode b_r_round 30 = .ok (.aload_n 0, 1) := by decide +kernel
theorem d_r_round_31 : decode b_r_round 31 = .ok (.getfield 23, 3) := by decide +kernel
theorem d_r_round_34 : decode b_r_round 34 = .ok (.iload_n 1, 1) := by decide +kernel
theorem d_r_round_35 : decode b_r_round 35 = .ok (.iaload, 1) := by decide +kernel
theorem d_r_round_36 : decode b_r_round 36 = .ok (.ireturn, 1) := by decide +kernel
theorem d_r_witness_0 : decode b_r_witness 0 = .ok (.aload_n 0, 1) := by decide +kernel
theorem d_r_witness_1 : decode b_r_witness 1 = .ok (.iconst 0, 1) := by decide +kernel
theorem d_r_witness_2 : decode b_r_witness 2 = .ok (.putfield 36, 3) := by decide +kernel
theorem d_r_witness_5 : decode b_r_witness 5 = .ok (.aload_n 0, 1) := by decide +kernel
theorem d_r_witness_6 : decode b_r_witness 6 = .ok (.aload_n 0, 1) := by decide +kernel
theorem d_r_witness_7 : decode b_r_witness 7 = .ok (.iload_n 1, 1) := by decide +kernel
theorem d_r_witness_8 : decode b_r_witness 8 = .ok (.invokevirtual 61, 3) := by decide +kernel
theorem d_r_witness_11 : decode b_r_witness 11 = .ok (.ifCond .ne 7, 3) := by decide +kernel
theorem d_r_witness_14 : decode b_r_witness 14 = .ok (.iconst 1, 1) := by decide +kernel
theorem d_r_witness_15 : decode b_r_witness 15 = .ok (.goto 4, 3) := by decide +kernel
theorem d_r_witness_18 : decode b_r_witness 18 = .ok (.iconst 0, 1) := by decide +kernel
theorem d_r_witness_19 : decode b_r_witness 19 = .ok (.iconst 1, 1) := by decide +kernel
theorem d_r_witness_20 : decode b_r_witness 20 = .ok (.invokevirtual 54, 3) := by decide +kernel
theorem d_r_witness_23 : decode b_r_witness 23 = .ok (.ifCond .ne 15, 3) := by decide +kernel
theorem d_r_witness_26 : decode b_r_witness 26 = .ok (.aload_n 0, 1) := by decide +kernel
theorem d_r_witness_27 : decode b_r_witness 27 = .ok (.iload_n 1, 1) := by decide +kernel
theorem d_r_witness_28 : decode b_r_witness 28 = .ok (.invokevirtual 78, 3) := by decide +kernel
theorem d_r_witness_31 : decode b_r_witness 31 = .ok (.ifCond .eq 7, 3) := by decide +kernel
theorem d_r_witness_34 : decode b_r_witness 34 = .ok (.iconst 1, 1) := by decide +kernel
theorem d_r_witness_35 : decode b_r_witness 35 = .ok (.goto 4, 3) := by decide +kernel
theorem d_r_witness_38 : decode b_r_witness 38 = .ok (.iconst 0, 1) := by decide +kernel
theorem d_r_witness_39 : decode b_r_witness 39 = .ok (.ireturn, 1) := by decide +kernel
theorem d_r_count_0 : decode b_r_count 0 = .ok (.aload_n 0, 1) := by decide +kernel
theorem d_r_count_1 : decode b_r_count 1 = .ok (.iconst 0, 1) := by decide +kernel
theorem d_r_count_2 : decode b_r_count 2 = .ok (.putfield 36, 3) := by decide +kernel
theorem d_r_count_5 : decode b_r_count 5 = .ok (.aload_n 0, 1) := by decide +kernel
theorem d_r_count_6 : decode b_r_count 6 = .ok (.iload_n 1, 1) := by decide +kernel
theorem d_r_count_7 : decode b_r_count 7 = .ok (.i2l, 1) := by decide +kernel
theorem d_r_count_8 : decode b_r_count 8 = .ok (.lconst 0, 1) := by decide +kernel
theorem d_r_count_9 : decode b_r_count 9 = .ok (.ldc2_w 90, 3) := by decide +kernel
theorem d_r_count_12 : decode b_r_count 12 = .ok (.invokestatic 42, 3) := by decide +kernel
theorem d_r_count_15 : decode b_r_count 15 = .ok (.ifCond .ne 7, 3) := by decide +kernel
theorem d_r_count_18 : decode b_r_count 18 = .ok (.iconst 1, 1) := by decide +kernel
theorem d_r_count_19 : decode b_r_count 19 = .ok (.goto 4, 3) := by decide +kernel
theorem d_r_count_22 : decode b_r_count 22 = .ok (.iconst 0, 1) := by decide +kernel
theorem d_r_count_23 : decode b_r_count 23 = .ok (.iconst 1, 1) := by decide +kernel
theorem d_r_count_24 : decode b_r_count 24 = .ok (.invokevirtual 54, 3) := by decide +kernel
theorem d_r_count_27 : decode b_r_count 27 = .ok (.ifCond .eq 5, 3) := by decide +kernel
theorem d_r_count_30 : decode b_r_count 30 = .ok (.iconst 0, 1) := by decide +kernel
theorem d_r_count_31 : decode b_r_count 31 = .ok (.ireturn, 1) := by decide +kernel
theorem d_r_count_32 : decode b_r_count 32 = .ok (.iload_n 1, 1) := by decide +kernel
theorem d_r_count_33 : decode b_r_count 33 = .ok (.iconst 2, 1) := by decide +kernel
theorem d_r_count_34 : decode b_r_count 34 = .ok (.if_icmp .ge 19, 3) := by decide +kernel
theorem d_r_count_37 : decode b_r_count 37 = .ok (.iload_n 1, 1) := by decide +kernel
theorem d_r_count_38 : decode b_r_count 38 = .ok (.ifCond .ne 10, 3) := by decide +kernel
theorem d_r_count_41 : decode b_r_count 41 = .ok (.aload_n 0, 1) := by decide +kernel
theorem d_r_count_42 : decode b_r_count 42 = .ok (.getfield 39, 3) := by decide +kernel
theorem d_r_count_45 : decode b_r_count 45 = .ok (.goto 7, 3) := by decide +kernel
theorem d_r_count_48 : decode b_r_count 48 = .ok (.aload_n 0, 1) := by decide +kernel
theorem d_r_count_49 : decode b_r_count 49 = .ok (.getfield 7, 3) := by decide +kernel
theorem d_r_count_52 : decode b_r_count 52 = .ok (.ireturn, 1) := by decide +kernel
theorem d_r_count_53 : decode b_r_count 53 = .ok (.iconst 0, 1) := by decide +kernel
theorem d_r_count_54 : decode b_r_count 54 = .ok (.istore_n 2, 1) := by decide +kernel
theorem d_r_count_55 : decode b_r_count 55 = .ok (.iload_n 1, 1) := by decide +kernel
theorem d_r_count_56 : decode b_r_count 56 = .ok (.iconst 3, 1) := by decide +kernel
theorem d_r_count_57 : decode b_r_count 57 = .ok (.if_icmp .ne 32, 3) := by decide +kernel
theorem d_r_count_60 : decode b_r_count 60 = .ok (.iconst 0, 1) := by decide +kernel
theorem d_r_count_61 : decode b_r_count 61 = .ok (.istore_n 3, 1) := by decide +kernel
theorem d_r_count_62 : decode b_r_count 62 = .ok (.iload_n 3, 1) := by decide +kernel
theorem d_r_count_63 : decode b_r_count 63 = .ok (.aload_n 0, 1) := by decide +kernel
theorem d_r_count_64 : decode b_r_count 64 = .ok (.getfield 39, 3) := by decide +kernel
theorem d_r_count_67 : decode b_r_count 67 = .ok (.if_icmp .ge 20, 3) := by decide +kernel
theorem d_r_count_70 : decode b_r_count 70 = .ok (.iload_n 2, 1) := by decide +kernel
theorem d_r_count_71 : decode b_r_count 71 = .ok (.aload_n 0, 1) := by decide +kernel
theorem d_r_count_72 : decode b_r_count 72 = .ok (.getfield 23, 3) := by decide +kernel
theorem d_r_count_75 : decode b_r_count 75 = .ok (.iload_n 3, 1) := by decide +kernel
theorem d_r_count_76 : decode b_r_count 76 = .ok (.iaload, 1) := by decide +kernel
theorem d_r_count_77 : decode b_r_count 77 = .ok (.invokestatic 72, 3) := by decide +kernel
theorem d_r_count_80 : decode b_r_count 80 = .ok (.istore_n 2, 1) := by decide +kernel
theorem d_r_count_81 : decode b_r_count 81 = .ok (.iinc 3 1, 3) := by decide +kernel
theorem d_r_count_84 : decode b_r_count 84 = .ok (.goto (-22), 3) := by decide +kernel
theorem d_r_count_87 : decode b_r_count 87 = .ok (.iload_n 2, 1) := by decide +kernel
theorem d_r_count_88 : decode b_r_count 88 = .ok (.ireturn, 1) := by decide +kernel
theorem d_r_count_89 : decode b_r_count 89 = .ok (.iconst 0, 1) := by decide +kernel
theorem d_r_count_90 : decode b_r_count 90 = .ok (.istore_n 3, 1) := by decide +kernel
theorem d_r_count_91 : decode b_r_count 91 = .ok (.iload_n 3, 1) := by decide +kernel
theorem d_r_count_92 : decode b_r_count 92 = .ok (.aload_n 0, 1) := by decide +kernel
theorem d_r_count_93 : decode b_r_count 93 = .ok (.getfield 7, 3) := by decide +kernel
theorem d_r_count_96 : decode b_r_count 96 = .ok (.if_icmp .ge 93, 3) := by decide +kernel
theorem d_r_count_99 : decode b_r_count 99 = .ok (.iconst 0, 1) := by decide +kernel
theorem d_r_count_100 : decode b_r_count 100 = .ok (.istore 4, 2) := by decide +kernel
theorem d_r_count_102 : decode b_r_count 102 = .ok (.iconst 0, 1) := by decide +kernel
theorem d_r_count_103 : decode b_r_count 103 = .ok (.istore 5, 2) := by decide +kernel
theorem d_r_count_105 : decode b_r_count 105 = .ok (.iload 5, 2) := by decide +kernel
theorem d_r_count_107 : decode b_r_count 107 = .ok (.aload_n 0, 1) := by decide +kernel
theorem d_r_count_108 : decode b_r_count 108 = .ok (.getfield 39, 3) := by decide +kernel
theorem d_r_count_111 : decode b_r_count 111 = .ok (.if_icmp .ge 64, 3) := by decide +kernel
theorem d_r_count_114 : decode b_r_count 114 = .ok (.iload 4, 2) := by decide +kernel
theorem d_r_count_116 : decode b_r_count 116 = .ok (.ifCond .ne 59, 3) := by decide +kernel
theorem d_r_count_119 : decode b_r_count 119 = .ok (.iconst 0, 1) := by decide +kernel
theorem d_r_count_120 : decode b_r_count 120 = .ok (.istore 6, 2) := by decide +kernel
theorem d_r_count_122 : decode b_r_count 122 = .ok (.iload 6, 2) := by decide +kernel
theorem d_r_count_124 : decode b_r_count 124 = .ok (.iload 5, 2) := by decide +kernel
theorem d_r_count_126 : decode b_r_count 126 = .ok (.if_icmp .ge 43, 3) := by decide +kernel
theorem d_r_count_129 : decode b_r_count 129 = .ok (.iload 4, 2) := by decide +kernel
theorem d_r_count_131 : decode b_r_count 131 = .ok (.ifCond .ne 38, 3) := by decide +kernel
theorem d_r_count_134 : decode b_r_count 134 = .ok (.aload_n 0, 1) := by decide +kernel
theorem d_r_count_135 : decode b_r_count 135 = .ok (.getfield 13, 3) := by decide +kernel
theorem d_r_count_138 : decode b_r_count 138 = .ok (.iload 5, 2) := by decide +kernel
theorem d_r_count_140 : decode b_r_count 140 = .ok (.iaload, 1) := by decide +kernel
theorem d_r_count_141 : decode b_r_count 141 = .ok (.iload_n 3, 1) := by decide +kernel
theorem d_r_count_142 : decode b_r_count 142 = .ok (.if_icmp .ne 18, 3) := by decide +kernel
theorem d_r_count_145 : decode b_r_count 145 = .ok (.aload_n 0, 1) := by decide +kernel
theorem d_r_count_146 : decode b_r_count 146 = .ok (.iload 5, 2) := by decide +kernel
theorem d_r_count_148 : decode b_r_count 148 = .ok (.iload 6, 2) := by decide +kernel
theorem d_r_count_150 : decode b_r_count 150 = .ok (.invokevirtual 69, 3) := by decide +kernel
theorem d_r_count_153 : decode b_r_count 153 = .ok (.ifCond .eq 7, 3) := by decide +kernel
theorem d_r_count_156 : decode b_r_count 156 = .ok (.iconst 1, 1) := by decide +kernel
theorem d_r_count_157 : decode b_r_count 157 = .ok (.goto 4, 3) := by decide +kernel
theorem d_r_count_160 : decode b_r_count 160 = .ok (.iconst 0, 1) := by decide +kernel
theorem d_r_count_161 : decode b_r_count 161 = .ok (.istore 4, 2) := by decide +kernel
theorem d_r_count_163 : decode b_r_count 163 = .ok (.iinc 6 1, 3) := by decide +kernel
theorem d_r_count_166 : decode b_r_count 166 = .ok (.goto (-44), 3) := by decide +kernel
theorem d_r_count_169 : decode b_r_count 169 = .ok (.iinc 5 1, 3) := by decide +kernel
theorem d_r_count_172 : decode b_r_count 172 = .ok (.goto (-67), 3) := by decide +kernel
theorem d_r_count_175 : decode b_r_count 175 = .ok (.iload 4, 2) := by decide +kernel
theorem d_r_count_177 : decode b_r_count 177 = .ok (.ifCond .eq 6, 3) := by decide +kernel
theorem d_r_count_180 : decode b_r_count 180 = .ok (.iinc 2 1, 3) := by decide +kernel
theorem d_r_count_183 : decode b_r_count 183 = .ok (.iinc 3 1, 3) := by decide +kernel
theorem d_r_count_186 : decode b_r_count 186 = .ok (.goto (-95), 3) := by decide +kernel
theorem d_r_count_189 : decode b_r_count 189 = .ok (.iload_n 2, 1) := by decide +kernel
theorem d_r_count_190 : decode b_r_count 190 = .ok (.ireturn, 1) := by decide +kernel
theorem d_j_bitCount_0 : decode b_j_bitCount 0 = .ok (.iload_n 0, 1) := by decide +kernel
theorem d_j_bitCount_1 : decode b_j_bitCount 1 = .ok (.iload_n 0, 1) := by decide +kernel
theorem d_j_bitCount_2 : decode b_j_bitCount 2 = .ok (.iconst 1, 1) := by decide +kernel
theorem d_j_bitCount_3 : decode b_j_bitCount 3 = .ok (.iushr, 1) := by decide +kernel
theorem d_j_bitCount_4 : decode b_j_bitCount 4 = .ok (.ldc_w 265, 3) := by decide +kernel
theorem d_j_bitCount_7 : decode b_j_bitCount 7 = .ok (.iand, 1) := by decide +kernel
theorem d_j_bitCount_8 : decode b_j_bitCount 8 = .ok (.isub, 1) := by decide +kernel
theorem d_j_bitCount_9 : decode b_j_bitCount 9 = .ok (.istore_n 0, 1) := by decide +kernel
theorem d_j_bitCount_10 : decode b_j_bitCount 10 = .ok (.iload_n 0, 1) := by decide +kernel
theorem d_j_bitCount_11 : decode b_j_bitCount 11 = .ok (.ldc_w 266, 3) := by decide +kernel
theorem d_j_bitCount_14 : decode b_j_bitCount 14 = .ok (.iand, 1) := by decide +kernel
theorem d_j_bitCount_15 : decode b_j_bitCount 15 = .ok (.iload_n 0, 1) := by decide +kernel
theorem d_j_bitCount_16 : decode b_j_bitCount 16 = .ok (.iconst 2, 1) := by decide +kernel
theorem d_j_bitCount_17 : decode b_j_bitCount 17 = .ok (.iushr, 1) := by decide +kernel
theorem d_j_bitCount_18 : decode b_j_bitCount 18 = .ok (.ldc_w 266, 3) := by decide +kernel
theorem d_j_bitCount_21 : decode b_j_bitCount 21 = .ok (.iand, 1) := by decide +kernel
theorem d_j_bitCount_22 : decode b_j_bitCount 22 = .ok (.iadd, 1) := by decide +kernel
theorem d_j_bitCount_23 : decode b_j_bitCount 23 = .ok (.istore_n 0, 1) := by decide +kernel
theorem d_j_bitCount_24 : decode b_j_bitCount 24 = .ok (.iload_n 0, 1) := by decide +kernel
theorem d_j_bitCount_25 : decode b_j_bitCount 25 = .ok (.iload_n 0, 1) := by decide +kernel
theorem d_j_bitCount_26 : decode b_j_bitCount 26 = .ok (.iconst 4, 1) := by decide +kernel
theorem d_j_bitCount_27 : decode b_j_bitCount 27 = .ok (.iushr, 1) := by decide +kernel
theorem d_j_bitCount_28 : decode b_j_bitCount 28 = .ok (.iadd, 1) := by decide +kernel
theorem d_j_bitCount_29 : decode b_j_bitCount 29 = .ok (.ldc_w 267, 3) := by decide +kernel
theorem d_j_bitCount_32 : decode b_j_bitCount 32 = .ok (.iand, 1) := by decide +kernel
theorem d_j_bitCount_33 : decode b_j_bitCount 33 = .ok (.istore_n 0, 1) := by decide +kernel
theorem d_j_bitCount_34 : decode b_j_bitCount 34 = .ok (.iload_n 0, 1) := by decide +kernel
theorem d_j_bitCount_35 : decode b_j_bitCount 35 = .ok (.iload_n 0, 1) := by decide +kernel
theorem d_j_bitCount_36 : decode b_j_bitCount 36 = .ok (.bipush 8, 2) := by decide +kernel
theorem d_j_bitCount_38 : decode b_j_bitCount 38 = .ok (.iushr, 1) := by decide +kernel
theorem d_j_bitCount_39 : decode b_j_bitCount 39 = .ok (.iadd, 1) := by decide +kernel
theorem d_j_bitCount_40 : decode b_j_bitCount 40 = .ok (.istore_n 0, 1) := by decide +kernel
theorem d_j_bitCount_41 : decode b_j_bitCount 41 = .ok (.iload_n 0, 1) := by decide +kernel
theorem d_j_bitCount_42 : decode b_j_bitCount 42 = .ok (.iload_n 0, 1) := by decide +kernel
theorem d_j_bitCount_43 : decode b_j_bitCount 43 = .ok (.bipush 16, 2) := by decide +kernel
theorem d_j_bitCount_45 : decode b_j_bitCount 45 = .ok (.iushr, 1) := by decide +kernel
theorem d_j_bitCount_46 : decode b_j_bitCount 46 = .ok (.iadd, 1) := by decide +kernel
theorem d_j_bitCount_47 : decode b_j_bitCount 47 = .ok (.istore_n 0, 1) := by decide +kernel
theorem d_j_bitCount_48 : decode b_j_bitCount 48 = .ok (.iload_n 0, 1) := by decide +kernel
theorem d_j_bitCount_49 : decode b_j_bitCount 49 = .ok (.bipush 63, 2) := by decide +kernel
theorem d_j_bitCount_51 : decode b_j_bitCount 51 = .ok (.iand, 1) := by decide +kernel
theorem d_j_bitCount_52 : decode b_j_bitCount 52 = .ok (.ireturn, 1) := by decide +kernel
