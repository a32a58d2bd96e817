theorem d_g_init_0 : decode b_g_init 0 = .ok (.aload_n 0, 1) := by decide +kernel
theorem d_g_init_1 : decode b_g_init 1 = .ok (.invokespecial 1, 3) := by decide +kernel
theorem d_g_init_4 : decode b_g_init 4 = .ok (.aload_n 0, 1) := by decide +kernel
theorem d_g_init_5 : decode b_g_init 5 = .ok (.iconst 4, 1) := by decide +kernel
theorem d_g_init_6 : decode b_g_init 6 = .ok (.putfield 9, 3) := by decide +kernel
theorem d_g_init_9 : decode b_g_init 9 = .ok (.aload_n 0, 1) := by decide +kernel
theorem d_g_init_10 : decode b_g_init 10 = .ok (.iconst 0, 1) := by decide +kernel
theorem d_g_init_11 : decode b_g_init 11 = .ok (.putfield 13, 3) := by decide +kernel
theorem d_g_init_14 : decode b_g_init 14 = .ok (.aload_n 0, 1) := by decide +kernel
theorem d_g_init_15 : decode b_g_init 15 = .ok (.bipush 120, 2) := by decide +kernel
theorem d_g_init_17 : decode b_g_init 17 = .ok (.newarray .int, 2) := by decide +kernel
theorem d_g_init_19 : decode b_g_init 19 = .ok (.putfield 16, 3) := by decide +kernel
theorem d_g_init_22 : decode b_g_init 22 = .ok (.aload_n 0, 1) := by decide +kernel
theorem d_g_init_23 : decode b_g_init 23 = .ok (.bipush 120, 2) := by decide +kernel
theorem d_g_init_25 : decode b_g_init 25 = .ok (.newarray .int, 2) := by decide +kernel
theorem d_g_init_27 : decode b_g_init 27 = .ok (.putfield 20, 3) := by decide +kernel
theorem d_g_init_30 : decode b_g_init 30 = .ok (.aload_n 0, 1) := by decide +kernel
theorem d_g_init_31 : decode b_g_init 31 = .ok (.bipush 120, 2) := by decide +kernel
theorem d_g_init_33 : decode b_g_init 33 = .ok (.newarray .int, 2) := by decide +kernel
theorem d_g_init_35 : decode b_g_init 35 = .ok (.putfield 23, 3) := by decide +kernel
theorem d_g_init_38 : decode b_g_init 38 = .ok (.aload_n 0, 1) := by decide +kernel
theorem d_g_init_39 : decode b_g_init 39 = .ok (.bipush 120, 2) := by decide +kernel
theorem d_g_init_41 : decode b_g_init 41 = .ok (.newarray .int, 2) := by decide +kernel
theorem d_g_init_43 : decode b_g_init 43 = .ok (.putfield 26, 3) := by decide +kernel
theorem d_g_init_46 : decode b_g_init 46 = .ok (.aload_n 0, 1) := by decide +kernel
theorem d_g_init_47 : decode b_g_init 47 = .ok (.bipush 120, 2) := by decide +kernel
theorem d_g_init_49 : decode b_g_init 49 = .ok (.newarray .long, 2) := by decide +kernel
theorem d_g_init_51 : decode b_g_init 51 = .ok (.putfield 29, 3) := by decide +kernel
theorem d_g_init_54 : decode b_g_init 54 = .ok (.aload_n 0, 1) := by decide +kernel
theorem d_g_init_55 : decode b_g_init 55 = .ok (.bipush 120, 2) := by decide +kernel
theorem d_g_init_57 : decode b_g_init 57 = .ok (.newarray .long, 2) := by decide +kernel
theorem d_g_init_59 : decode b_g_init 59 = .ok (.putfield 33, 3) := by decide +kernel
theorem d_g_init_62 : decode b_g_init 62 = .ok (.return_, 1) := by decide +kernel
theorem d_g_begin_0 : decode b_g_begin 0 = .ok (.iload_n 1, 1) := by decide +kernel
theorem d_g_begin_1 : decode b_g_begin 1 = .ok (.iconst 2, 1) := by decide +kernel
theorem d_g_begin_2 : decode b_g_begin 2 = .ok (.if_icmp .lt 9, 3) := by decide +kernel
theorem d_g_begin_5 : decode b_g_begin 5 = .ok (.iload_n 1, 1) := by decide +kernel
theorem d_g_begin_6 : decode b_g_begin 6 = .ok (.bipush 8, 2) := by decide +kernel
theorem d_g_begin_8 : decode b_g_begin 8 = .ok (.if_icmp .le 13, 3) := by decide +kernel
theorem d_g_begin_11 : decode b_g_begin 11 = .ok (.new 36, 3) := by decide +kernel
theorem d_g_begin_14 : decode b_g_begin 14 = .ok (.dup, 1) := by decide +kernel
theorem d_g_begin_15 : decode b_g_begin 15 = .ok (.ldc 38, 2) := by decide +kernel
theorem d_g_begin_17 : decode b_g_begin 17 = .ok (.invokespecial 40, 3) := by decide +kernel
theorem d_g_begin_20 : decode b_g_begin 20 = .ok (.athrow, 1) := by decide +kernel
theorem d_g_begin_21 : decode b_g_begin 21 = .ok (.aload_n 0, 1) := by decide +kernel
theorem d_g_begin_22 : decode b_g_begin 22 = .ok (.iload_n 1, 1) := by decide +kernel
theorem d_g_begin_23 : decode b_g_begin 23 = .ok (.putfield 9, 3) := by decide +kernel
theorem d_g_begin_26 : decode b_g_begin 26 = .ok (.aload_n 0, 1) := by decide +kernel
theorem d_g_begin_27 : decode b_g_begin 27 = .ok (.iconst 0, 1) := by decide +kernel
theorem d_g_begin_28 : decode b_g_begin 28 = .ok (.putfield 13, 3) := by decide +kernel
theorem d_g_begin_31 : decode b_g_begin 31 = .ok (.return_, 1) := by decide +kernel
theorem d_g_event_0 : decode b_g_event 0 = .ok (.aload_n 0, 1) := by decide +kernel
theorem d_g_event_1 : decode b_g_event 1 = .ok (.iload_n 1, 1) := by decide +kernel
theorem d_g_event_2 : decode b_g_event 2 = .ok (.invokevirtual 43, 3) := by decide +kernel
theorem d_g_event_5 : decode b_g_event 5 = .ok (.aload_n 0, 1) := by decide +kernel
theorem d_g_event_6 : decode b_g_event 6 = .ok (.iload_n 1, 1) := by decide +kernel
theorem d_g_event_7 : decode b_g_event 7 = .ok (.iload_n 2, 1) := by decide +kernel
theorem d_g_event_8 : decode b_g_event 8 = .ok (.invokevirtual 47, 3) := by decide +kernel
theorem d_g_event_11 : decode b_g_event 11 = .ok (.ifCond .ne 13, 3) := by decide +kernel
theorem d_g_event_14 : decode b_g_event 14 = .ok (.new 36, 3) := by decide +kernel
theorem d_g_event_17 : decode b_g_event 17 = .ok (.dup, 1) := by decide +kernel
theorem d_g_event_18 : decode b_g_event 18 = .ok (.ldc 51, 2) := by decide +kernel
theorem d_g_event_20 : decode b_g_event 20 = .ok (.invokespecial 40, 3) := by decide +kernel
theorem d_g_event_23 : decode b_g_event 23 = .ok (.athrow, 1) := by decide +kernel
theorem d_g_event_24 : decode b_g_event 24 = .ok (.aload_n 0, 1) := by decide +kernel
theorem d_g_event_25 : decode b_g_event 25 = .ok (.iload_n 1, 1) := by decide +kernel
theorem d_g_event_26 : decode b_g_event 26 = .ok (.iload_n 3, 1) := by decide +kernel
theorem d_g_event_27 : decode b_g_event 27 = .ok (.invokevirtual 53, 3) := by decide +kernel
theorem d_g_event_30 : decode b_g_event 30 = .ok (.ifCond .ne 13, 3) := by decide +kernel
theorem d_g_event_33 : decode b_g_event 33 = .ok (.new 36, 3) := by decide +kernel
theorem d_g_event_36 : decode b_g_event 36 = .ok (.dup, 1) := by decide +kernel
theorem d_g_event_37 : decode b_g_event 37 = .ok (.ldc 56, 2) := by decide +kernel
theorem d_g_event_39 : decode b_g_event 39 = .ok (.invokespecial 40, 3) := by decide +kernel
theorem d_g_event_42 : decode b_g_event 42 = .ok (.athrow, 1) := by decide +kernel
theorem d_g_event_43 : decode b_g_event 43 = .ok (.aload_n 0, 1) := by decide +kernel
theorem d_g_event_44 : decode b_g_event 44 = .ok (.getfield 13, 3) := by decide +kernel
theorem d_g_event_47 : decode b_g_event 47 = .ok (.bipush 120, 2) := by decide +kernel
theorem d_g_event_49 : decode b_g_event 49 = .ok (.if_icmp .lt 13, 3) := by decide +kernel
theorem d_g_event_52 : decode b_g_event 52 = .ok (.new 58, 3) := by decide +kernel
theorem d_g_event_55 : decode b_g_event 55 = .ok (.dup, 1) := by decide +kernel
theorem d_g_event_56 : decode b_g_event 56 = .ok (.ldc 60, 2) := by decide +kernel
theorem d_g_event_58 : decode b_g_event 58 = .ok (.invokespecial 62, 3) := by decide +kernel
theorem d_g_event_61 : decode b_g_event 61 = .ok (.athrow, 1) := by decide +kernel
theorem d_g_event_62 : decode b_g_event 62 = .ok (.aload_n 0, 1) := by decide +kernel
theorem d_g_event_63 : decode b_g_event 63 = .ok (.getfield 13, 3) := by decide +kernel
theorem d_g_event_66 : decode b_g_event 66 = .ok (.istore 4, 2) := by decide +kernel
theorem d_g_event_68 : decode b_g_event 68 = .ok (.aload_n 0, 1) := by decide +kernel
theorem d_g_event_69 : decode b_g_event 69 = .ok (.getfield 16, 3) := by decide +kernel
theorem d_g_event_72 : decode b_g_event 72 = .ok (.iload 4, 2) := by decide +kernel
theorem d_g_event_74 : decode b_g_event 74 = .ok (.iload_n 1, 1) := by decide +kernel
theorem d_g_event_75 : decode b_g_event 75 = .ok (.iastore, 1) := by decide +kernel
theorem d_g_event_76 : decode b_g_event 76 = .ok (.aload_n 0, 1) := by decide +kernel
theorem d_g_event_77 : decode b_g_event 77 = .ok (.getfield 20, 3) := by decide +kernel
theorem d_g_event_80 : decode b_g_event 80 = .ok (.iload 4, 2) := by decide +kernel
theorem d_g_event_82 : decode b_g_event 82 = .ok (.iload_n 2, 1) := by decide +kernel
theorem d_g_event_83 : decode b_g_event 83 = .ok (.iastore, 1) := by decide +kernel
theorem d_g_event_84 : decode b_g_event 84 = .ok (.aload_n 0, 1) := by decide +kernel
theorem d_g_event_85 : decode b_g_event 85 = .ok (.iload 4, 2) := by decide +kernel
theorem d_g_event_87 : decode b_g_event 87 = .ok (.iload_n 2, 1) := by decide +kernel
theorem d_g_event_88 : decode b_g_event 88 = .ok (.iload_n 3, 1) := by decide +kernel
theorem d_g_event_89 : decode b_g_event 89 = .ok (.invokevirtual 63, 3) := by decide +kernel
theorem d_g_event_92 : decode b_g_event 92 = .ok (.aload_n 0, 1) := by decide +kernel
theorem d_g_event_93 : decode b_g_event 93 = .ok (.getfield 26, 3) := by decide +kernel
theorem d_g_event_96 : decode b_g_event 96 = .ok (.iload 4, 2) := by decide +kernel
theorem d_g_event_98 : decode b_g_event 98 = .ok (.aload_n 0, 1) := by decide +kernel
theorem d_g_event_99 : decode b_g_event 99 = .ok (.aload_n 0, 1) := by decide +kernel
theorem d_g_event_100 : decode b_g_event 100 = .ok (.getfield 29, 3) := by decide +kernel
theorem d_g_event_103 : decode b_g_event 103 = .ok (.iload 4, 2) := by decide +kernel
theorem d_g_event_105 : decode b_g_event 105 = .ok (.laload, 1) := by decide +kernel
theorem d_g_event_106 : decode b_g_event 106 = .ok (.aload_n 0, 1) := by decide +kernel
theorem d_g_event_107 : decode b_g_event 107 = .ok (.getfield 33, 3) := by decide +kernel
theorem d_g_event_110 : decode b_g_event 110 = .ok (.iload 4, 2) := by decide +kernel
theorem d_g_event_112 : decode b_g_event 112 = .ok (.laload, 1) := by decide +kernel
theorem d_g_event_113 : decode b_g_event 113 = .ok (.invokevirtual 67, 3) := by decide +kernel
theorem d_g_event_116 : decode b_g_event 116 = .ok (.iastore, 1) := by decide +kernel
theorem d_g_event_117 : decode b_g_event 117 = .ok (.aload_n 0, 1) := by decide +kernel
theorem d_g_event_118 : decode b_g_event 118 = .ok (.getfield 23, 3) := by decide +kernel
theorem d_g_event_121 : decode b_g_event 121 = .ok (.iload 4, 2) := by decide +kernel
theorem d_g_event_123 : decode b_g_event 123 = .ok (.aload_n 0, 1) := by decide +kernel
theorem d_g_event_124 : decode b_g_event 124 = .ok (.iload 4, 2) := by decide +kernel
theorem d_g_event_126 : decode b_g_event 126 = .ok (.iload_n 2, 1) := by decide +kernel
theorem d_g_event_127 : decode b_g_event 127 = .ok (.iload_n 3, 1) := by decide +kernel
theorem d_g_event_128 : decode b_g_event 128 = .ok (.invokevirtual 71, 3) := by decide +kernel
theorem d_g_event_131 : decode b_g_event 131 = .ok (.iastore, 1) := by decide +kernel
theorem d_g_event_132 : decode b_g_event 132 = .ok (.aload_n 0, 1) := by decide +kernel
theorem d_g_event_133 : decode b_g_event 133 = .ok (.iload 4, 2) := by decide +kernel
theorem d_g_event_135 : decode b_g_event 135 = .ok (.iconst 1, 1) := by decide +kernel
theorem d_g_event_136 : decode b_g_event 136 = .ok (.iadd, 1) := by decide +kernel
theorem d_g_event_137 : decode b_g_event 137 = .ok (.putfield 13, 3) := by decide +kernel
theorem d_g_event_140 : decode b_g_event 140 = .ok (.iload 4, 2) := by decide +kernel
theorem d_g_event_142 : decode b_g_event 142 = .ok (.ireturn, 1) := by decide +kernel
theorem d_g_ancestor_0 : decode b_g_ancestor 0 = .ok (.aload_n 0, 1) := by decide +kernel
theorem d_g_ancestor_1 : decode b_g_ancestor 1 = .ok (.iload_n 1, 1) := by decide +kernel
theorem d_g_ancestor_2 : decode b_g_ancestor 2 = .ok (.invokevirtual 75, 3) := by decide +kernel
theorem d_g_ancestor_5 : decode b_g_ancestor 5 = .ok (.aload_n 0, 1) := by decide +kernel
theorem d_g_ancestor_6 : decode b_g_ancestor 6 = .ok (.iload_n 2, 1) := by decide +kernel
theorem d_g_ancestor_7 : decode b_g_ancestor 7 = .ok (.invokevirtual 75, 3) := by decide +kernel
theorem d_g_ancestor_10 : decode b_g_ancestor 10 = .ok (.aload_n 0, 1) := by decide +kernel
theorem d_g_ancestor_11 : decode b_g_ancestor 11 = .ok (.iload_n 1, 1) := by decide +kernel
theorem d_g_ancestor_12 : decode b_g_ancestor 12 = .ok (.iload_n 2, 1) := by decide +kernel
theorem d_g_ancestor_13 : decode b_g_ancestor 13 = .ok (.invokevirtual 78, 3) := by decide +kernel
theorem d_g_ancestor_16 : decode b_g_ancestor 16 = .ok (.ireturn, 1) := by decide +kernel
theorem d_g_own_0 : decode b_g_own 0 = .ok (.aload_n 0, 1) := by decide +kernel
theorem d_g_own_1 : decode b_g_own 1 = .ok (.iload_n 1, 1) := by decide +kernel
theorem d_g_own_2 : decode b_g_own 2 = .ok (.invokevirtual 75, 3) := by decide +kernel
theorem d_g_own_5 : decode b_g_own 5 = .ok (.aload_n 0, 1) := by decide +kernel
theorem d_g_own_6 : decode b_g_own 6 = .ok (.iload_n 2, 1) := by decide +kernel
theorem d_g_own_7 : decode b_g_own 7 = .ok (.invokevirtual 75, 3) := by decide +kernel
theorem d_g_own_10 : decode b_g_own 10 = .ok (.iload_n 1, 1) := by decide +kernel
theorem d_g_own_11 : decode b_g_own 11 = .ok (.istore_n 3, 1) := by decide +kernel
theorem d_g_own_12 : decode b_g_own 12 = .ok (.iload_n 1, 1) := by decide +kernel
theorem d_g_own_13 : decode b_g_own 13 = .ok (.istore 4, 2) := by decide +kernel
theorem d_g_own_15 : decode b_g_own 15 = .ok (.iload 4, 2) := by decide +kernel
theorem d_g_own_17 : decode b_g_own 17 = .ok (.iload_n 2, 1) := by decide +kernel
theorem d_g_own_18 : decode b_g_own 18 = .ok (.if_icmp .le 23, 3) := by decide +kernel
theorem d_g_own_21 : decode b_g_own 21 = .ok (.iload 4, 2) := by decide +kernel
theorem d_g_own_23 : decode b_g_own 23 = .ok (.iload_n 3, 1) := by decide +kernel
theorem d_g_own_24 : decode b_g_own 24 = .ok (.if_icmp .ne 11, 3) := by decide +kernel
theorem d_g_own_27 : decode b_g_own 27 = .ok (.aload_n 0, 1) := by decide +kernel
theorem d_g_own_28 : decode b_g_own 28 = .ok (.getfield 20, 3) := by decide +kernel
theorem d_g_own_31 : decode b_g_own 31 = .ok (.iload 4, 2) := by decide +kernel
theorem d_g_own_33 : decode b_g_own 33 = .ok (.iaload, 1) := by decide +kernel
theorem d_g_own_34 : decode b_g_own 34 = .ok (.istore_n 3, 1) := by decide +kernel
theorem d_g_own_35 : decode b_g_own 35 = .ok (.iinc 4 (-1), 3) := by decide +kernel
theorem d_g_own_38 : decode b_g_own 38 = .ok (.goto (-23), 3) := by decide +kernel
theorem d_g_own_41 : decode b_g_own 41 = .ok (.iload_n 3, 1) := by decide +kernel
theorem d_g_own_42 : decode b_g_own 42 = .ok (.iload_n 2, 1) := by decide +kernel
theorem d_g_own_43 : decode b_g_own 43 = .ok (.if_icmp .ne 7, 3) := by decide +kernel
theorem d_g_own_46 : decode b_g_own 46 = .ok (.iconst 1, 1) := by decide +kernel
theorem d_g_own_47 : decode b_g_own 47 = .ok (.goto 4, 3) := by decide +kernel
theorem d_g_own_50 : decode b_g_own 50 = .ok (.iconst 0, 1) := by decide +kernel
theorem d_g_own_51 : decode b_g_own 51 = .ok (.ireturn, 1) := by decide +kernel
theorem d_g_forked_0 : decode b_g_forked 0 = .ok (.aload_n 0, 1) := by decide +kernel
theorem d_g_forked_1 : decode b_g_forked 1 = .ok (.iload_n 2, 1) := by decide +kernel
theorem d_g_forked_2 : decode b_g_forked 2 = .ok (.invokevirtual 43, 3) := by decide +kernel
theorem d_g_forked_5 : decode b_g_forked 5 = .ok (.aload_n 0, 1) := by decide +kernel
theorem d_g_forked_6 : decode b_g_forked 6 = .ok (.iload_n 1, 1) := by decide +kernel
theorem d_g_forked_7 : decode b_g_forked 7 = .ok (.invokevirtual 75, 3) := by decide +kernel
theorem d_g_forked_10 : decode b_g_forked 10 = .ok (.aload_n 0, 1) := by decide +kernel
theorem d_g_forked_11 : decode b_g_forked 11 = .ok (.getfield 26, 3) := by decide +kernel
theorem d_g_forked_14 : decode b_g_forked 14 = .ok (.iload_n 1, 1) := by decide +kernel
theorem d_g_forked_15 : decode b_g_forked 15 = .ok (.iaload, 1) := by decide +kernel
theorem d_g_forked_16 : decode b_g_forked 16 = .ok (.iload_n 2, 1) := by decide +kernel
theorem d_g_forked_17 : decode b_g_forked 17 = .ok (.invokestatic 81, 3) := by decide +kernel
theorem d_g_forked_20 : decode b_g_forked 20 = .ok (.ireturn, 1) := by decide +kernel
theorem d_g_sees_0 : decode b_g_sees 0 = .ok (.aload_n 0, 1) := by decide +kernel
theorem d_g_sees_1 : decode b_g_sees 1 = .ok (.iload_n 1, 1) := by decide +kernel
theorem d_g_sees_2 : decode b_g_sees 2 = .ok (.invokevirtual 75, 3) := by decide +kernel
theorem d_g_sees_5 : decode b_g_sees 5 = .ok (.aload_n 0, 1) := by decide +kernel
theorem d_g_sees_6 : decode b_g_sees 6 = .ok (.iload_n 2, 1) := by decide +kernel
theorem d_g_sees_7 : decode b_g_sees 7 = .ok (.invokevirtual 75, 3) := by decide +kernel
theorem d_g_sees_10 : decode b_g_sees 10 = .ok (.aload_n 0, 1) := by decide +kernel
theorem d_g_sees_11 : decode b_g_sees 11 = .ok (.iload_n 1, 1) := by decide +kernel
theorem d_g_sees_12 : decode b_g_sees 12 = .ok (.iload_n 2, 1) := by decide +kernel
theorem d_g_sees_13 : decode b_g_sees 13 = .ok (.invokevirtual 84, 3) := by decide +kernel
theorem d_g_sees_16 : decode b_g_sees 16 = .ok (.ireturn, 1) := by decide +kernel
theorem d_g_strength_0 : decode b_g_strength 0 = .ok (.aload_n 0, 1) := by decide +kernel
theorem d_g_strength_1 : decode b_g_strength 1 = .ok (.iload_n 1, 1) := by decide +kernel
theorem d_g_strength_2 : decode b_g_strength 2 = .ok (.invokevirtual 75, 3) := by decide +kernel
theorem d_g_strength_5 : decode b_g_strength 5 = .ok (.aload_n 0, 1) := by decide +kernel
theorem d_g_strength_6 : decode b_g_strength 6 = .ok (.iload_n 2, 1) := by decide +kernel
theorem d_g_strength_7 : decode b_g_strength 7 = .ok (.invokevirtual 75, 3) := by decide +kernel
theorem d_g_strength_10 : decode b_g_strength 10 = .ok (.aload_n 0, 1) := by decide +kernel
theorem d_g_strength_11 : decode b_g_strength 11 = .ok (.iload_n 1, 1) := by decide +kernel
theorem d_g_strength_12 : decode b_g_strength 12 = .ok (.iload_n 2, 1) := by decide +kernel
theorem d_g_strength_13 : decode b_g_strength 13 = .ok (.invokevirtual 87, 3) := by decide +kernel
theorem d_g_strength_16 : decode b_g_strength 16 = .ok (.ireturn, 1) := by decide +kernel
theorem d_g_strongly_0 : decode b_g_strongly 0 = .ok (.aload_n 0, 1) := by decide +kernel
theorem d_g_strongly_1 : decode b_g_strongly 1 = .ok (.iload_n 1, 1) := by decide +kernel
theorem d_g_strongly_2 : decode b_g_strongly 2 = .ok (.invokevirtual 75, 3) := by decide +kernel
theorem d_g_strongly_5 : decode b_g_strongly 5 = .ok (.aload_n 0, 1) := by decide +kernel
theorem d_g_strongly_6 : decode b_g_strongly 6 = .ok (.iload_n 2, 1) := by decide +kernel
theorem d_g_strongly_7 : decode b_g_strongly 7 = .ok (.invokevirtual 75, 3) := by decide +kernel
theorem d_g_strongly_10 : decode b_g_strongly 10 = .ok (.aload_n 0, 1) := by decide +kernel
theorem d_g_strongly_11 : decode b_g_strongly 11 = .ok (.aload_n 0, 1) := by decide +kernel
theorem d_g_strongly_12 : decode b_g_strongly 12 = .ok (.iload_n 1, 1) := by decide +kernel
theorem d_g_strongly_13 : decode b_g_strongly 13 = .ok (.iload_n 2, 1) := by decide +kernel
theorem d_g_strongly_14 : decode b_g_strongly 14 = .ok (.invokevirtual 87, 3) := by decide +kernel
theorem d_g_strongly_17 : decode b_g_strongly 17 = .ok (.invokevirtual 91, 3) := by decide +kernel
theorem d_g_strongly_20 : decode b_g_strongly 20 = .ok (.ireturn, 1) := by decide +kernel
theorem d_g_round_0 : decode b_g_round 0 = .ok (.aload_n 0, 1) := by decide +kernel
theorem d_g_round_1 : decode b_g_round 1 = .ok (.iload_n 1, 1) := by decide +kernel
theorem d_g_round_2 : decode b_g_round 2 = .ok (.invokevirtual 75, 3) := by decide +kernel
theorem d_g_round_5 : decode b_g_round 5 = .ok (.aload_n 0, 1) := by decide +kernel
theorem d_g_round_6 : decode b_g_round 6 = .ok (.getfield 23, 3) := by decide +kernel
theorem d_g_round_9 : decode b_g_round 9 = .ok (.iload_n 1, 1) := by decide +kernel
theorem d_g_round_10 : decode b_g_round 10 = .ok (.iaload, 1) := by decide +kernel
theorem d_g_round_11 : decode b_g_round 11 = .ok (.ireturn, 1) := by decide +kernel
theorem d_g_witness_0 : decode b_g_witness 0 = .ok (.aload_n 0, 1) := by decide +kernel
theorem d_g_witness_1 : decode b_g_witness 1 = .ok (.iload_n 1, 1) := by decide +kernel
theorem d_g_witness_2 : decode b_g_witness 2 = .ok (.invokevirtual 75, 3) := by decide +kernel
theorem d_g_witness_5 : decode b_g_witness 5 = .ok (.aload_n 0, 1) := by decide +kernel
theorem d_g_witness_6 : decode b_g_witness 6 = .ok (.iload_n 1, 1) := by decide +kernel
theorem d_g_witness_7 : decode b_g_witness 7 = .ok (.invokevirtual 95, 3) := by decide +kernel
theorem d_g_witness_10 : decode b_g_witness 10 = .ok (.ireturn, 1) := by decide +kernel
theorem d_g_count_0 : decode b_g_count 0 = .ok (.iload_n 1, 1) := by decide +kernel
theorem d_g_count_1 : decode b_g_count 1 = .ok (.tableswitch 54 0 3 #[31, 36, 41, 49], 31) := by decide +kernel
theorem d_g_count_32 : decode b_g_count 32 = .ok (.aload_n 0, 1) := by decide +kernel
theorem d_g_count_33 : decode b_g_count 33 = .ok (.getfield 13, 3) := by decide +kernel
theorem d_g_count_36 : decode b_g_count 36 = .ok (.ireturn, 1) := by decide +kernel
theorem d_g_count_37 : decode b_g_count 37 = .ok (.aload_n 0, 1) := by decide +kernel
theorem d_g_count_38 : decode b_g_count 38 = .ok (.getfield 9, 3) := by decide +kernel
theorem d_g_count_41 : decode b_g_count 41 = .ok (.ireturn, 1) := by decide +kernel
theorem d_g_count_42 : decode b_g_count 42 = .ok (.aload_n 0, 1) := by decide +kernel
theorem d_g_count_43 : decode b_g_count 43 = .ok (.invokevirtual 98, 3) := by decide +kernel
theorem d_g_count_46 : decode b_g_count 46 = .ok (.invokestatic 102, 3) := by decide +kernel
theorem d_g_count_49 : decode b_g_count 49 = .ok (.ireturn, 1) := by decide +kernel
theorem d_g_count_50 : decode b_g_count 50 = .ok (.aload_n 0, 1) := by decide +kernel
theorem d_g_count_51 : decode b_g_count 51 = .ok (.invokevirtual 108, 3) := by decide +kernel
theorem d_g_count_54 : decode b_g_count 54 = .ok (.ireturn, 1) := by decide +kernel
theorem d_g_count_55 : decode b_g_count 55 = .ok (.new 36, 3) := by decide +kernel
theorem d_g_count_58 : decode b_g_count 58 = .ok (.dup, 1) := by decide +kernel
theorem d_g_count_59 : decode b_g_count 59 = .ok (.ldc 111, 2) := by decide +kernel
theorem d_g_count_61 : decode b_g_count 61 = .ok (.invokespecial 40, 3) := by decide +kernel
theorem d_g_count_64 : decode b_g_count 64 = .ok (.athrow, 1) := by decide +kernel
theorem d_g_requireNode_0 : decode b_g_requireNode 0 = .ok (.iload_n 1, 1) := by decide +kernel
theorem d_g_requireNode_1 : decode b_g_requireNode 1 = .ok (.ifCond .lt 11, 3) := by decide +kernel
theorem d_g_requireNode_4 : decode b_g_requireNode 4 = .ok (.iload_n 1, 1) := by decide +kernel
theorem d_g_requireNode_5 : decode b_g_requireNode 5 = .ok (.aload_n 0, 1) := by decide +kernel
theorem d_g_requireNode_6 : decode b_g_requireNode 6 = .ok (.getfield 9, 3) := by decide +kernel
theorem d_g_requireNode_9 : decode b_g_requireNode 9 = .ok (.if_icmp .lt 13, 3) := by decide +kernel
theorem d_g_requireNode_12 : decode b_g_requireNode 12 = .ok (.new 36, 3) := by decide +kernel
theorem d_g_requireNode_15 : decode b_g_requireNode 15 = .ok (.dup, 1) := by decide +kernel
theorem d_g_requireNode_16 : decode b_g_requireNode 16 = .ok (.ldc 113, 2) := by decide +kernel
theorem d_g_requireNode_18 : decode b_g_requireNode 18 = .ok (.invokespecial 40, 3) := by decide +kernel
theorem d_g_requireNode_21 : decode b_g_requireNode 21 = .ok (.athrow, 1) := by decide +kernel
theorem d_g_requireNode_22 : decode b_g_requireNode 22 = .ok (.return_, 1) := by decide +kernel
theorem d_g_requireEvent_0 : decode b_g_requireEvent 0 = .ok (.aload_n 0, 1) := by decide +kernel
theorem d_g_requireEvent_1 : decode b_g_requireEvent 1 = .ok (.iload_n 1, 1) := by decide +kernel
theorem d_g_requireEvent_2 : decode b_g_requireEvent 2 = .ok (.invokevirtual 115, 3) := by decide +kernel
theorem d_g_requireEvent_5 : decode b_g_requireEvent 5 = .ok (.ifCond .ne 13, 3) := by decide +kernel
theorem d_g_requireEvent_8 : decode b_g_requireEvent 8 = .ok (.new 58, 3) := by decide +kernel
theorem d_g_requireEvent_11 : decode b_g_requireEvent 11 = .ok (.dup, 1) := by decide +kernel
theorem d_g_requireEvent_12 : decode b_g_requireEvent 12 = .ok (.ldc 118, 2) := by decide +kernel
theorem d_g_requireEvent_14 : decode b_g_requireEvent 14 = .ok (.invokespecial 62, 3) := by decide +kernel
theorem d_g_requireEvent_17 : decode b_g_requireEvent 17 = .ok (.athrow, 1) := by decide +kernel
theorem d_g_requireEvent_18 : decode b_g_requireEvent 18 = .ok (.return_, 1) := by decide +kernel
theorem d_g_isEvent_0 : decode b_g_isEvent 0 = .ok (.iload_n 1, 1) := by decide +kernel
theorem d_g_isEvent_1 : decode b_g_isEvent 1 = .ok (.ifCond .lt 15, 3) := by decide +kernel
theorem d_g_isEvent_4 : decode b_g_isEvent 4 = .ok (.iload_n 1, 1) := by decide +kernel
theorem d_g_isEvent_5 : decode b_g_isEvent 5 = .ok (.aload_n 0, 1) := by decide +kernel
theorem d_g_isEvent_6 : decode b_g_isEvent 6 = .ok (.getfield 13, 3) := by decide +kernel
theorem d_g_isEvent_9 : decode b_g_isEvent 9 = .ok (.if_icmp .ge 7, 3) := by decide +kernel
theorem d_g_isEvent_12 : decode b_g_isEvent 12 = .ok (.iconst 1, 1) := by decide +kernel
theorem d_g_isEvent_13 : decode b_g_isEvent 13 = .ok (.goto 4, 3) := by decide +kernel
theorem d_g_isEvent_16 : decode b_g_isEvent 16 = .ok (.iconst 0, 1) := by decide +kernel
theorem d_g_isEvent_17 : decode b_g_isEvent 17 = .ok (.ireturn, 1) := by decide +kernel
theorem d_g_mayBeSelfParent_0 : decode b_g_mayBeSelfParent 0 = .ok (.iload_n 2, 1) := by decide +kernel
theorem d_g_mayBeSelfParent_1 : decode b_g_mayBeSelfParent 1 = .ok (.iconst (-1), 1) := by decide +kernel
theorem d_g_mayBeSelfParent_2 : decode b_g_mayBeSelfParent 2 = .ok (.if_icmp .eq 21, 3) := by decide +kernel
theorem d_g_mayBeSelfParent_5 : decode b_g_mayBeSelfParent 5 = .ok (.aload_n 0, 1) := by decide +kernel
theorem d_g_mayBeSelfParent_6 : decode b_g_mayBeSelfParent 6 = .ok (.iload_n 2, 1) := by decide +kernel
theorem d_g_mayBeSelfParent_7 : decode b_g_mayBeSelfParent 7 = .ok (.invokevirtual 115, 3) := by decide +kernel
theorem d_g_mayBeSelfParent_10 : decode b_g_mayBeSelfParent 10 = .ok (.ifCond .eq 17, 3) := by decide +kernel
theorem d_g_mayBeSelfParent_13 : decode b_g_mayBeSelfParent 13 = .ok (.aload_n 0, 1) := by decide +kernel
theorem d_g_mayBeSelfParent_14 : decode b_g_mayBeSelfParent 14 = .ok (.getfield 16, 3) := by decide +kernel
theorem d_g_mayBeSelfParent_17 : decode b_g_mayBeSelfParent 17 = .ok (.iload_n 2, 1) := by decide +kernel
theorem d_g_mayBeSelfParent_18 : decode b_g_mayBeSelfParent 18 = .ok (.iaload, 1) := by decide +kernel
theorem d_g_mayBeSelfParent_19 : decode b_g_mayBeSelfParent 19 = .ok (.iload_n 1, 1) := by decide +kernel
theorem d_g_mayBeSelfParent_20 : decode b_g_mayBeSelfParent 20 = .ok (.if_icmp .ne 7, 3) := by decide +kernel
theorem d_g_mayBeSelfParent_23 : decode b_g_mayBeSelfParent 23 = .ok (.iconst 1, 1) := by decide +kernel
theorem d_g_mayBeSelfParent_24 : decode b_g_mayBeSelfParent 24 = .ok (.goto 4, 3) := by decide +kernel
theorem d_g_mayBeSelfParent_27 : decode b_g_mayBeSelfParent 27 = .ok (.iconst 0, 1) := by decide +kernel
theorem d_g_mayBeSelfParent_28 : decode b_g_mayBeSelfParent 28 = .ok (.ireturn, 1) := by decide +kernel
theorem d_g_mayBeOtherParent_0 : decode b_g_mayBeOtherParent 0 = .ok (.iload_n 2, 1) := by decide +kernel
theorem d_g_mayBeOtherParent_1 : decode b_g_mayBeOtherParent 1 = .ok (.iconst (-1), 1) := by decide +kernel
theorem d_g_mayBeOtherParent_2 : decode b_g_mayBeOtherParent 2 = .ok (.if_icmp .eq 21, 3) := by decide +kernel
theorem d_g_mayBeOtherParent_5 : decode b_g_mayBeOtherParent 5 = .ok (.aload_n 0, 1) := by decide +kernel
theorem d_g_mayBeOtherParent_6 : decode b_g_mayBeOtherParent 6 = .ok (.iload_n 2, 1) := by decide +kernel
theorem d_g_mayBeOtherParent_7 : decode b_g_mayBeOtherParent 7 = .ok (.invokevirtual 115, 3) := by decide +kernel
theorem d_g_mayBeOtherParent_10 : decode b_g_mayBeOtherParent 10 = .ok (.ifCond .eq 17, 3) := by decide +kernel
theorem d_g_mayBeOtherParent_13 : decode b_g_mayBeOtherParent 13 = .ok (.aload_n 0, 1) := by decide +kernel
theorem d_g_mayBeOtherParent_14 : decode b_g_mayBeOtherParent 14 = .ok (.getfield 16, 3) := by decide +kernel
theorem d_g_mayBeOtherParent_17 : decode b_g_mayBeOtherParent 17 = .ok (.iload_n 2, 1) := by decide +kernel
theorem d_g_mayBeOtherParent_18 : decode b_g_mayBeOtherParent 18 = .ok (.iaload, 1) := by decide +kernel
theorem d_g_mayBeOtherParent_19 : decode b_g_mayBeOtherParent 19 = .ok (.iload_n 1, 1) := by decide +kernel
theorem d_g_mayBeOtherParent_20 : decode b_g_mayBeOtherParent 20 = .ok (.if_icmp .eq 7, 3) := by decide +kernel
theorem d_g_mayBeOtherParent_23 : decode b_g_mayBeOtherParent 23 = .ok (.iconst 1, 1) := by decide +kernel
theorem d_g_mayBeOtherParent_24 : decode b_g_mayBeOtherParent 24 = .ok (.goto 4, 3) := by decide +kernel
theorem d_g_mayBeOtherParent_27 : decode b_g_mayBeOtherParent 27 = .ok (.iconst 0, 1) := by decide +kernel
theorem d_g_mayBeOtherParent_28 : decode b_g_mayBeOtherParent 28 = .ok (.ireturn, 1) := by decide +kernel
theorem d_g_gatherAncestors_0 : decode b_g_gatherAncestors 0 = .ok (.aload_n 0, 1) := by decide +kernel
theorem d_g_gatherAncestors_1 : decode b_g_gatherAncestors 1 = .ok (.getfield 29, 3) := by decide +kernel
theorem d_g_gatherAncestors_4 : decode b_g_gatherAncestors 4 = .ok (.iload_n 1, 1) := by decide +kernel
theorem d_g_gatherAncestors_5 : decode b_g_gatherAncestors 5 = .ok (.iload_n 1, 1) := by decide +kernel
theorem d_g_gatherAncestors_6 : decode b_g_gatherAncestors 6 = .ok (.bipush 64, 2) := by decide +kernel
theorem d_g_gatherAncestors_8 : decode b_g_gatherAncestors 8 = .ok (.if_icmp .ge 9, 3) := by decide +kernel
theorem d_g_gatherAncestors_11 : decode b_g_gatherAncestors 11 = .ok (.lconst 1, 1) := by decide +kernel
theorem d_g_gatherAncestors_12 : decode b_g_gatherAncestors 12 = .ok (.iload_n 1, 1) := by decide +kernel
theorem d_g_gatherAncestors_13 : decode b_g_gatherAncestors 13 = .ok (.lshl, 1) := by decide +kernel
theorem d_g_gatherAncestors_14 : decode b_g_gatherAncestors 14 = .ok (.goto 4, 3) := by decide +kernel
theorem d_g_gatherAncestors_17 : decode b_g_gatherAncestors 17 = .ok (.lconst 0, 1) := by decide +kernel
theorem d_g_gatherAncestors_18 : decode b_g_gatherAncestors 18 = .ok (.lastore, 1) := by decide +kernel
theorem d_g_gatherAncestors_19 : decode b_g_gatherAncestors 19 = .ok (.aload_n 0, 1) := by decide +kernel
theorem d_g_gatherAncestors_20 : decode b_g_gatherAncestors 20 = .ok (.getfield 33, 3) := by decide +kernel
theorem d_g_gatherAncestors_23 : decode b_g_gatherAncestors 23 = .ok (.iload_n 1, 1) := by decide +kernel
theorem d_g_gatherAncestors_24 : decode b_g_gatherAncestors 24 = .ok (.iload_n 1, 1) := by decide +kernel
theorem d_g_gatherAncestors_25 : decode b_g_gatherAncestors 25 = .ok (.bipush 64, 2) := by decide +kernel
theorem d_g_gatherAncestors_27 : decode b_g_gatherAncestors 27 = .ok (.if_icmp .ge 7, 3) := by decide +kernel
theorem d_g_gatherAncestors_30 : decode b_g_gatherAncestors 30 = .ok (.lconst 0, 1) := by decide +kernel
theorem d_g_gatherAncestors_31 : decode b_g_gatherAncestors 31 = .ok (.goto 9, 3) := by decide +kernel
theorem d_g_gatherAncestors_34 : decode b_g_gatherAncestors 34 = .ok (.lconst 1, 1) := by decide +kernel
theorem d_g_gatherAncestors_35 : decode b_g_gatherAncestors 35 = .ok (.iload_n 1, 1) := by decide +kernel
theorem d_g_gatherAncestors_36 : decode b_g_gatherAncestors 36 = .ok (.bipush 64, 2) := by decide +kernel
theorem d_g_gatherAncestors_38 : decode b_g_gatherAncestors 38 = .ok (.isub, 1) := by decide +kernel
theorem d_g_gatherAncestors_39 : decode b_g_gatherAncestors 39 = .ok (.lshl, 1) := by decide +kernel
theorem d_g_gatherAncestors_40 : decode b_g_gatherAncestors 40 = .ok (.lastore, 1) := by decide +kernel
theorem d_g_gatherAncestors_41 : decode b_g_gatherAncestors 41 = .ok (.aload_n 0, 1) := by decide +kernel
theorem d_g_gatherAncestors_42 : decode b_g_gatherAncestors 42 = .ok (.iload_n 1, 1) := by decide +kernel
theorem d_g_gatherAncestors_43 : decode b_g_gatherAncestors 43 = .ok (.iload_n 2, 1) := by decide +kernel
theorem d_g_gatherAncestors_44 : decode b_g_gatherAncestors 44 = .ok (.invokevirtual 120, 3) := by decide +kernel
theorem d_g_gatherAncestors_47 : decode b_g_gatherAncestors 47 = .ok (.aload_n 0, 1) := by decide +kernel
theorem d_g_gatherAncestors_48 : decode b_g_gatherAncestors 48 = .ok (.iload_n 1, 1) := by decide +kernel
theorem d_g_gatherAncestors_49 : decode b_g_gatherAncestors 49 = .ok (.iload_n 3, 1) := by decide +kernel
theorem d_g_gatherAncestors_50 : decode b_g_gatherAncestors 50 = .ok (.invokevirtual 120, 3) := by decide +kernel
theorem d_g_gatherAncestors_53 : decode b_g_gatherAncestors 53 = .ok (.return_, 1) := by decide +kernel
theorem d_g_addAncestorsOf_0 : decode b_g_addAncestorsOf 0 = .ok (.iload_n 2, 1) := by decide +kernel
theorem d_g_addAncestorsOf_1 : decode b_g_addAncestorsOf 1 = .ok (.iconst (-1), 1) := by decide +kernel
theorem d_g_addAncestorsOf_2 : decode b_g_addAncestorsOf 2 = .ok (.if_icmp .eq 33, 3) := by decide +kernel
theorem d_g_addAncestorsOf_5 : decode b_g_addAncestorsOf 5 = .ok (.aload_n 0, 1) := by decide +kernel
theorem d_g_addAncestorsOf_6 : decode b_g_addAncestorsOf 6 = .ok (.getfield 29, 3) := by decide +kernel
theorem d_g_addAncestorsOf_9 : decode b_g_addAncestorsOf 9 = .ok (.iload_n 1, 1) := by decide +kernel
theorem d_g_addAncestorsOf_10 : decode b_g_addAncestorsOf 10 = .ok (.dup2, 1) := by decide +kernel
theorem d_g_addAncestorsOf_11 : decode b_g_addAncestorsOf 11 = .ok (.laload, 1) := by decide +kernel
theorem d_g_addAncestorsOf_12 : decode b_g_addAncestorsOf 12 = .ok (.aload_n 0, 1) := by decide +kernel
theorem d_g_addAncestorsOf_13 : decode b_g_addAncestorsOf 13 = .ok (.getfield 29, 3) := by decide +kernel
theorem d_g_addAncestorsOf_16 : decode b_g_addAncestorsOf 16 = .ok (.iload_n 2, 1) := by decide +kernel
theorem d_g_addAncestorsOf_17 : decode b_g_addAncestorsOf 17 = .ok (.laload, 1) := by decide +kernel
theorem d_g_addAncestorsOf_18 : decode b_g_addAncestorsOf 18 = .ok (.lor, 1) := by decide +kernel
theorem d_g_addAncestorsOf_19 : decode b_g_addAncestorsOf 19 = .ok (.lastore, 1) := by decide +kernel
theorem d_g_addAncestorsOf_20 : decode b_g_addAncestorsOf 20 = .ok (.aload_n 0, 1) := by decide +kernel
theorem d_g_addAncestorsOf_21 : decode b_g_addAncestorsOf 21 = .ok (.getfield 33, 3) := by decide +kernel
theorem d_g_addAncestorsOf_24 : decode b_g_addAncestorsOf 24 = .ok (.iload_n 1, 1) := by decide +kernel
theorem d_g_addAncestorsOf_25 : decode b_g_addAncestorsOf 25 = .ok (.dup2, 1) := by decide +kernel
theorem d_g_addAncestorsOf_26 : decode b_g_addAncestorsOf 26 = .ok (.laload, 1) := by decide +kernel
theorem d_g_addAncestorsOf_27 : decode b_g_addAncestorsOf 27 = .ok (.aload_n 0, 1) := by decide +kernel
theorem d_g_addAncestorsOf_28 : decode b_g_addAncestorsOf 28 = .ok (.getfield 33, 3) := by decide +kernel
theorem d_g_addAncestorsOf_31 : decode b_g_addAncestorsOf 31 = .ok (.iload_n 2, 1) := by decide +kernel
theorem d_g_addAncestorsOf_32 : decode b_g_addAncestorsOf 32 = .ok (.laload, 1) := by decide +kernel
theorem d_g_addAncestorsOf_33 : decode b_g_addAncestorsOf 33 = .ok (.lor, 1) := by decide +kernel
theorem d_g_addAncestorsOf_34 : decode b_g_addAncestorsOf 34 = .ok (.lastore, 1) := by decide +kernel
theorem d_g_addAncestorsOf_35 : decode b_g_addAncestorsOf 35 = .ok (.return_, 1) := by decide +kernel
theorem d_g_hasAncestor_0 : decode b_g_hasAncestor 0 = .ok (.aload_n 0, 1) := by decide +kernel
theorem d_g_hasAncestor_1 : decode b_g_hasAncestor 1 = .ok (.getfield 29, 3) := by decide +kernel
theorem d_g_hasAncestor_4 : decode b_g_hasAncestor 4 = .ok (.iload_n 1, 1) := by decide +kernel
theorem d_g_hasAncestor_5 : decode b_g_hasAncestor 5 = .ok (.laload, 1) := by decide +kernel
theorem d_g_hasAncestor_6 : decode b_g_hasAncestor 6 = .ok (.aload_n 0, 1) := by decide +kernel
theorem d_g_hasAncestor_7 : decode b_g_hasAncestor 7 = .ok (.getfield 33, 3) := by decide +kernel
theorem d_g_hasAncestor_10 : decode b_g_hasAncestor 10 = .ok (.iload_n 1, 1) := by decide +kernel
theorem d_g_hasAncestor_11 : decode b_g_hasAncestor 11 = .ok (.laload, 1) := by decide +kernel
theorem d_g_hasAncestor_12 : decode b_g_hasAncestor 12 = .ok (.iload_n 2, 1) := by decide +kernel
theorem d_g_hasAncestor_13 : decode b_g_hasAncestor 13 = .ok (.invokestatic 124, 3) := by decide +kernel
theorem d_g_hasAncestor_16 : decode b_g_hasAncestor 16 = .ok (.ireturn, 1) := by decide +kernel
theorem d_g_isWithin_0 : decode b_g_isWithin 0 = .ok (.iload 4, 2) := by decide +kernel
theorem d_g_isWithin_2 : decode b_g_isWithin 2 = .ok (.bipush 64, 2) := by decide +kernel
theorem d_g_isWithin_4 : decode b_g_isWithin 4 = .ok (.if_icmp .ge 10, 3) := by decide +kernel
theorem d_g_isWithin_7 : decode b_g_isWithin 7 = .ok (.lload_n 0, 1) := by decide +kernel
theorem d_g_isWithin_8 : decode b_g_isWithin 8 = .ok (.iload 4, 2) := by decide +kernel
theorem d_g_isWithin_10 : decode b_g_isWithin 10 = .ok (.lushr, 1) := by decide +kernel
theorem d_g_isWithin_11 : decode b_g_isWithin 11 = .ok (.goto 10, 3) := by decide +kernel
theorem d_g_isWithin_14 : decode b_g_isWithin 14 = .ok (.lload_n 2, 1) := by decide +kernel
theorem d_g_isWithin_15 : decode b_g_isWithin 15 = .ok (.iload 4, 2) := by decide +kernel
theorem d_g_isWithin_17 : decode b_g_isWithin 17 = .ok (.bipush 64, 2) := by decide +kernel
theorem d_g_isWithin_19 : decode b_g_isWithin 19 = .ok (.isub, 1) := by decide +kernel
theorem d_g_isWithin_20 : decode b_g_isWithin 20 = .ok (.lushr, 1) := by decide +kernel
theorem d_g_isWithin_21 : decode b_g_isWithin 21 = .ok (.lstore 5, 2) := by decide +kernel
theorem d_g_isWithin_23 : decode b_g_isWithin 23 = .ok (.lload 5, 2) := by decide +kernel
theorem d_g_isWithin_25 : decode b_g_isWithin 25 = .ok (.lconst 1, 1) := by decide +kernel
theorem d_g_isWithin_26 : decode b_g_isWithin 26 = .ok (.land, 1) := by decide +kernel
theorem d_g_isWithin_27 : decode b_g_isWithin 27 = .ok (.lconst 0, 1) := by decide +kernel
theorem d_g_isWithin_28 : decode b_g_isWithin 28 = .ok (.lcmp, 1) := by decide +kernel
theorem d_g_isWithin_29 : decode b_g_isWithin 29 = .ok (.ifCond .eq 7, 3) := by decide +kernel
theorem d_g_isWithin_32 : decode b_g_isWithin 32 = .ok (.iconst 1, 1) := by decide +kernel
theorem d_g_isWithin_33 : decode b_g_isWithin 33 = .ok (.goto 4, 3) := by decide +kernel
theorem d_g_isWithin_36 : decode b_g_isWithin 36 = .ok (.iconst 0, 1) := by decide +kernel
theorem d_g_isWithin_37 : decode b_g_isWithin 37 = .ok (.ireturn, 1) := by decide +kernel
theorem d_g_hasBit_0 : decode b_g_hasBit 0 = .ok (.iload_n 0, 1) := by decide +kernel
theorem d_g_hasBit_1 : decode b_g_hasBit 1 = .ok (.iload_n 1, 1) := by decide +kernel
theorem d_g_hasBit_2 : decode b_g_hasBit 2 = .ok (.iushr, 1) := by decide +kernel
theorem d_g_hasBit_3 : decode b_g_hasBit 3 = .ok (.iconst 1, 1) := by decide +kernel
theorem d_g_hasBit_4 : decode b_g_hasBit 4 = .ok (.iand, 1) := by decide +kernel
theorem d_g_hasBit_5 : decode b_g_hasBit 5 = .ok (.ifCond .eq 7, 3) := by decide +kernel
theorem d_g_hasBit_8 : decode b_g_hasBit 8 = .ok (.iconst 1, 1) := by decide +kernel
theorem d_g_hasBit_9 : decode b_g_hasBit 9 = .ok (.goto 4, 3) := by decide +kernel
theorem d_g_hasBit_12 : decode b_g_hasBit 12 = .ok (.iconst 0, 1) := by decide +kernel
theorem d_g_hasBit_13 : decode b_g_hasBit 13 = .ok (.ireturn, 1) := by decide +kernel
theorem d_g_lowestBits_0 : decode b_g_lowestBits 0 = .ok (.iload_n 0, 1) := by decide +kernel
theorem d_g_lowestBits_1 : decode b_g_lowestBits 1 = .ok (.ifCond .gt 5, 3) := by decide +kernel
theorem d_g_lowestBits_4 : decode b_g_lowestBits 4 = .ok (.lconst 0, 1) := by decide +kernel
theorem d_g_lowestBits_5 : decode b_g_lowestBits 5 = .ok (.lreturn, 1) := by decide +kernel
theorem d_g_lowestBits_6 : decode b_g_lowestBits 6 = .ok (.iload_n 0, 1) := by decide +kernel
theorem d_g_lowestBits_7 : decode b_g_lowestBits 7 = .ok (.bipush 64, 2) := by decide +kernel
theorem d_g_lowestBits_9 : decode b_g_lowestBits 9 = .ok (.if_icmp .lt 9, 3) := by decide +kernel
theorem d_g_lowestBits_12 : decode b_g_lowestBits 12 = .ok (.ldc2_w 128, 3) := by decide +kernel
theorem d_g_lowestBits_15 : decode b_g_lowestBits 15 = .ok (.goto 8, 3) := by decide +kernel
theorem d_g_lowestBits_18 : decode b_g_lowestBits 18 = .ok (.lconst 1, 1) := by decide +kernel
theorem d_g_lowestBits_19 : decode b_g_lowestBits 19 = .ok (.iload_n 0, 1) := by decide +kernel
theorem d_g_lowestBits_20 : decode b_g_lowestBits 20 = .ok (.lshl, 1) := by decide +kernel
theorem d_g_lowestBits_21 : decode b_g_lowestBits 21 = .ok (.lconst 1, 1) := by decide +kernel
theorem d_g_lowestBits_22 : decode b_g_lowestBits 22 = .ok (.lsub, 1) := by decide +kernel
theorem d_g_lowestBits_23 : decode b_g_lowestBits 23 = .ok (.lreturn, 1) := by decide +kernel
theorem d_g_forkersOfAll_0 : decode b_g_forkersOfAll 0 = .ok (.aload_n 0, 1) := by decide +kernel
theorem d_g_forkersOfAll_1 : decode b_g_forkersOfAll 1 = .ok (.aload_n 0, 1) := by decide +kernel
theorem d_g_forkersOfAll_2 : decode b_g_forkersOfAll 2 = .ok (.getfield 13, 3) := by decide +kernel
theorem d_g_forkersOfAll_5 : decode b_g_forkersOfAll 5 = .ok (.invokestatic 130, 3) := by decide +kernel
theorem d_g_forkersOfAll_8 : decode b_g_forkersOfAll 8 = .ok (.aload_n 0, 1) := by decide +kernel
theorem d_g_forkersOfAll_9 : decode b_g_forkersOfAll 9 = .ok (.getfield 13, 3) := by decide +kernel
theorem d_g_forkersOfAll_12 : decode b_g_forkersOfAll 12 = .ok (.bipush 64, 2) := by decide +kernel
theorem d_g_forkersOfAll_14 : decode b_g_forkersOfAll 14 = .ok (.isub, 1) := by decide +kernel
theorem d_g_forkersOfAll_15 : decode b_g_forkersOfAll 15 = .ok (.invokestatic 130, 3) := by decide +kernel
theorem d_g_forkersOfAll_18 : decode b_g_forkersOfAll 18 = .ok (.invokevirtual 67, 3) := by decide +kernel
theorem d_g_forkersOfAll_21 : decode b_g_forkersOfAll 21 = .ok (.ireturn, 1) := by decide +kernel
theorem d_g_forkersWithin_0 : decode b_g_forkersWithin 0 = .ok (.iconst 0, 1) := by decide +kernel
theorem d_g_forkersWithin_1 : decode b_g_forkersWithin 1 = .ok (.istore 5, 2) := by decide +kernel
theorem d_g_forkersWithin_3 : decode b_g_forkersWithin 3 = .ok (.iconst 0, 1) := by decide +kernel
theorem d_g_forkersWithin_4 : decode b_g_forkersWithin 4 = .ok (.istore 6, 2) := by decide +kernel
theorem d_g_forkersWithin_6 : decode b_g_forkersWithin 6 = .ok (.iload 6, 2) := by decide +kernel
theorem d_g_forkersWithin_8 : decode b_g_forkersWithin 8 = .ok (.aload_n 0, 1) := by decide +kernel
theorem d_g_forkersWithin_9 : decode b_g_forkersWithin 9 = .ok (.getfield 9, 3) := by decide +kernel
theorem d_g_forkersWithin_12 : decode b_g_forkersWithin 12 = .ok (.if_icmp .ge 29, 3) := by decide +kernel
theorem d_g_forkersWithin_15 : decode b_g_forkersWithin 15 = .ok (.aload_n 0, 1) := by decide +kernel
theorem d_g_forkersWithin_16 : decode b_g_forkersWithin 16 = .ok (.lload_n 1, 1) := by decide +kernel
theorem d_g_forkersWithin_17 : decode b_g_forkersWithin 17 = .ok (.lload_n 3, 1) := by decide +kernel
theorem d_g_forkersWithin_18 : decode b_g_forkersWithin 18 = .ok (.iload 6, 2) := by decide +kernel
theorem d_g_forkersWithin_20 : decode b_g_forkersWithin 20 = .ok (.invokevirtual 134, 3) := by decide +kernel
theorem d_g_forkersWithin_23 : decode b_g_forkersWithin 23 = .ok (.ifCond .eq 12, 3) := by decide +kernel
theorem d_g_forkersWithin_26 : decode b_g_forkersWithin 26 = .ok (.iload 5, 2) := by decide +kernel
theorem d_g_forkersWithin_28 : decode b_g_forkersWithin 28 = .ok (.iconst 1, 1) := by decide +kernel
theorem d_g_forkersWithin_29 : decode b_g_forkersWithin 29 = .ok (.iload 6, 2) := by decide +kernel
theorem d_g_forkersWithin_31 : decode b_g_forkersWithin 31 = .ok (.ishl, 1) := by decide +kernel
theorem d_g_forkersWithin_32 : decode b_g_forkersWithin 32 = .ok (.ior, 1) := by decide +kernel
theorem d_g_forkersWithin_33 : decode b_g_forkersWithin 33 = .ok (.istore 5, 2) := by decide +kernel
theorem d_g_forkersWithin_35 : decode b_g_forkersWithin 35 = .ok (.iinc 6 1, 3) := by decide +kernel
theorem d_g_forkersWithin_38 : decode b_g_forkersWithin 38 = .ok (.goto (-32), 3) := by decide +kernel
theorem d_g_forkersWithin_41 : decode b_g_forkersWithin 41 = .ok (.iload 5, 2) := by decide +kernel
theorem d_g_forkersWithin_43 : decode b_g_forkersWithin 43 = .ok (.ireturn, 1) := by decide +kernel
theorem d_g_hasForkWithin_0 : decode b_g_hasForkWithin 0 = .ok (.iconst 0, 1) := by decide +kernel
theorem d_g_hasForkWithin_1 : decode b_g_hasForkWithin 1 = .ok (.istore 6, 2) := by decide +kernel
theorem d_g_hasForkWithin_3 : decode b_g_hasForkWithin 3 = .ok (.iconst (-1), 1) := by decide +kernel
theorem d_g_hasForkWithin_4 : decode b_g_hasForkWithin 4 = .ok (.istore 7, 2) := by decide +kernel
theorem d_g_hasForkWithin_6 : decode b_g_hasForkWithin 6 = .ok (.bipush 119, 2) := by decide +kernel
theorem d_g_hasForkWithin_8 : decode b_g_hasForkWithin 8 = .ok (.istore 8, 2) := by decide +kernel
theorem d_g_hasForkWithin_10 : decode b_g_hasForkWithin 10 = .ok (.iload 8, 2) := by decide +kernel
theorem d_g_hasForkWithin_12 : decode b_g_hasForkWithin 12 = .ok (.ifCond .lt 57, 3) := by decide +kernel
theorem d_g_hasForkWithin_15 : decode b_g_hasForkWithin 15 = .ok (.lload_n 1, 1) := by decide +kernel
theorem d_g_hasForkWithin_16 : decode b_g_hasForkWithin 16 = .ok (.lload_n 3, 1) := by decide +kernel
theorem d_g_hasForkWithin_17 : decode b_g_hasForkWithin 17 = .ok (.iload 8, 2) := by decide +kernel
theorem d_g_hasForkWithin_19 : decode b_g_hasForkWithin 19 = .ok (.invokestatic 124, 3) := by decide +kernel
theorem d_g_hasForkWithin_22 : decode b_g_hasForkWithin 22 = .ok (.ifCond .eq 41, 3) := by decide +kernel
theorem d_g_hasForkWithin_25 : decode b_g_hasForkWithin 25 = .ok (.aload_n 0, 1) := by decide +kernel
theorem d_g_hasForkWithin_26 : decode b_g_hasForkWithin 26 = .ok (.getfield 16, 3) := by decide +kernel
theorem d_g_hasForkWithin_29 : decode b_g_hasForkWithin 29 = .ok (.iload 8, 2) := by decide +kernel
theorem d_g_hasForkWithin_31 : decode b_g_hasForkWithin 31 = .ok (.iaload, 1) := by decide +kernel
theorem d_g_hasForkWithin_32 : decode b_g_hasForkWithin 32 = .ok (.iload 5, 2) := by decide +kernel
theorem d_g_hasForkWithin_34 : decode b_g_hasForkWithin 34 = .ok (.if_icmp .ne 29, 3) := by decide +kernel
theorem d_g_hasForkWithin_37 : decode b_g_hasForkWithin 37 = .ok (.iload 6, 2) := by decide +kernel
theorem d_g_hasForkWithin_39 : decode b_g_hasForkWithin 39 = .ok (.ifCond .eq 12, 3) := by decide +kernel
theorem d_g_hasForkWithin_42 : decode b_g_hasForkWithin 42 = .ok (.iload 8, 2) := by decide +kernel
theorem d_g_hasForkWithin_44 : decode b_g_hasForkWithin 44 = .ok (.iload 7, 2) := by decide +kernel
theorem d_g_hasForkWithin_46 : decode b_g_hasForkWithin 46 = .ok (.if_icmp .eq 5, 3) := by decide +kernel
theorem d_g_hasForkWithin_49 : decode b_g_hasForkWithin 49 = .ok (.iconst 1, 1) := by decide +kernel
theorem d_g_hasForkWithin_50 : decode b_g_hasForkWithin 50 = .ok (.ireturn, 1) := by decide +kernel
theorem d_g_hasForkWithin_51 : decode b_g_hasForkWithin 51 = .ok (.iconst 1, 1) := by decide +kernel
theorem d_g_hasForkWithin_52 : decode b_g_hasForkWithin 52 = .ok (.istore 6, 2) := by decide +kernel
theorem d_g_hasForkWithin_54 : decode b_g_hasForkWithin 54 = .ok (.aload_n 0, 1) := by decide +kernel
theorem d_g_hasForkWithin_55 : decode b_g_hasForkWithin 55 = .ok (.getfield 20, 3) := by decide +kernel
theorem d_g_hasForkWithin_58 : decode b_g_hasForkWithin 58 = .ok (.iload 8, 2) := by decide +kernel
theorem d_g_hasForkWithin_60 : decode b_g_hasForkWithin 60 = .ok (.iaload, 1) := by decide +kernel
theorem d_g_hasForkWithin_61 : decode b_g_hasForkWithin 61 = .ok (.istore 7, 2) := by decide +kernel
theorem d_g_hasForkWithin_63 : decode b_g_hasForkWithin 63 = .ok (.iinc 8 (-1), 3) := by decide +kernel
theorem d_g_hasForkWithin_66 : decode b_g_hasForkWithin 66 = .ok (.goto (-56), 3) := by decide +kernel
theorem d_g_hasForkWithin_69 : decode b_g_hasForkWithin 69 = .ok (.iconst 0, 1) := by decide +kernel
theorem d_g_hasForkWithin_70 : decode b_g_hasForkWithin 70 = .ok (.ireturn, 1) := by decide +kernel
theorem d_g_hasSight_0 : decode b_g_hasSight 0 = .ok (.aload_n 0, 1) := by decide +kernel
theorem d_g_hasSight_1 : decode b_g_hasSight 1 = .ok (.iload_n 1, 1) := by decide +kernel
theorem d_g_hasSight_2 : decode b_g_hasSight 2 = .ok (.iload_n 2, 1) := by decide +kernel
theorem d_g_hasSight_3 : decode b_g_hasSight 3 = .ok (.invokevirtual 78, 3) := by decide +kernel
theorem d_g_hasSight_6 : decode b_g_hasSight 6 = .ok (.ifCond .eq 25, 3) := by decide +kernel
theorem d_g_hasSight_9 : decode b_g_hasSight 9 = .ok (.aload_n 0, 1) := by decide +kernel
theorem d_g_hasSight_10 : decode b_g_hasSight 10 = .ok (.getfield 26, 3) := by decide +kernel
theorem d_g_hasSight_13 : decode b_g_hasSight 13 = .ok (.iload_n 1, 1) := by decide +kernel
theorem d_g_hasSight_14 : decode b_g_hasSight 14 = .ok (.iaload, 1) := by decide +kernel
theorem d_g_hasSight_15 : decode b_g_hasSight 15 = .ok (.aload_n 0, 1) := by decide +kernel
theorem d_g_hasSight_16 : decode b_g_hasSight 16 = .ok (.getfield 16, 3) := by decide +kernel
theorem d_g_hasSight_19 : decode b_g_hasSight 19 = .ok (.iload_n 2, 1) := by decide +kernel
theorem d_g_hasSight_20 : decode b_g_hasSight 20 = .ok (.iaload, 1) := by decide +kernel
theorem d_g_hasSight_21 : decode b_g_hasSight 21 = .ok (.invokestatic 81, 3) := by decide +kernel
theorem d_g_hasSight_24 : decode b_g_hasSight 24 = .ok (.ifCond .ne 7, 3) := by decide +kernel
theorem d_g_hasSight_27 : decode b_g_hasSight 27 = .ok (.iconst 1, 1) := by decide +kernel
theorem d_g_hasSight_28 : decode b_g_hasSight 28 = .ok (.goto 4, 3) := by decide +kernel
theorem d_g_hasSight_31 : decode b_g_hasSight 31 = .ok (.iconst 0, 1) := by decide +kernel
theorem d_g_hasSight_32 : decode b_g_hasSight 32 = .ok (.ireturn, 1) := by decide +kernel
theorem d_g_nodesBetween_0 : decode b_g_nodesBetween 0 = .ok (.iconst 0, 1) := by decide +kernel
theorem d_g_nodesBetween_1 : decode b_g_nodesBetween 1 = .ok (.istore_n 3, 1) := by decide +kernel
theorem d_g_nodesBetween_2 : decode b_g_nodesBetween 2 = .ok (.iload_n 2, 1) := by decide +kernel
theorem d_g_nodesBetween_3 : decode b_g_nodesBetween 3 = .ok (.istore 4, 2) := by decide +kernel
theorem d_g_nodesBetween_5 : decode b_g_nodesBetween 5 = .ok (.iload 4, 2) := by decide +kernel
theorem d_g_nodesBetween_7 : decode b_g_nodesBetween 7 = .ok (.iload_n 1, 1) := by decide +kernel
theorem d_g_nodesBetween_8 : decode b_g_nodesBetween 8 = .ok (.if_icmp .gt 41, 3) := by decide +kernel
theorem d_g_nodesBetween_11 : decode b_g_nodesBetween 11 = .ok (.aload_n 0, 1) := by decide +kernel
theorem d_g_nodesBetween_12 : decode b_g_nodesBetween 12 = .ok (.iload_n 1, 1) := by decide +kernel
theorem d_g_nodesBetween_13 : decode b_g_nodesBetween 13 = .ok (.iload 4, 2) := by decide +kernel
theorem d_g_nodesBetween_15 : decode b_g_nodesBetween 15 = .ok (.invokevirtual 84, 3) := by decide +kernel
theorem d_g_nodesBetween_18 : decode b_g_nodesBetween 18 = .ok (.ifCond .eq 25, 3) := by decide +kernel
theorem d_g_nodesBetween_21 : decode b_g_nodesBetween 21 = .ok (.aload_n 0, 1) := by decide +kernel
theorem d_g_nodesBetween_22 : decode b_g_nodesBetween 22 = .ok (.iload 4, 2) := by decide +kernel
theorem d_g_nodesBetween_24 : decode b_g_nodesBetween 24 = .ok (.iload_n 2, 1) := by decide +kernel
theorem d_g_nodesBetween_25 : decode b_g_nodesBetween 25 = .ok (.invokevirtual 84, 3) := by decide +kernel
theorem d_g_nodesBetween_28 : decode b_g_nodesBetween 28 = .ok (.ifCond .eq 15, 3) := by decide +kernel
theorem d_g_nodesBetween_31 : decode b_g_nodesBetween 31 = .ok (.iload_n 3, 1) := by decide +kernel
theorem d_g_nodesBetween_32 : decode b_g_nodesBetween 32 = .ok (.iconst 1, 1) := by decide +kernel
theorem d_g_nodesBetween_33 : decode b_g_nodesBetween 33 = .ok (.aload_n 0, 1) := by decide +kernel
theorem d_g_nodesBetween_34 : decode b_g_nodesBetween 34 = .ok (.getfield 16, 3) := by decide +kernel
theorem d_g_nodesBetween_37 : decode b_g_nodesBetween 37 = .ok (.iload 4, 2) := by decide +kernel
theorem d_g_nodesBetween_39 : decode b_g_nodesBetween 39 = .ok (.iaload, 1) := by decide +kernel
theorem d_g_nodesBetween_40 : decode b_g_nodesBetween 40 = .ok (.ishl, 1) := by decide +kernel
theorem d_g_nodesBetween_41 : decode b_g_nodesBetween 41 = .ok (.ior, 1) := by decide +kernel
theorem d_g_nodesBetween_42 : decode b_g_nodesBetween 42 = .ok (.istore_n 3, 1) := by decide +kernel
theorem d_g_nodesBetween_43 : decode b_g_nodesBetween 43 = .ok (.iinc 4 1, 3) := by decide +kernel
theorem d_g_nodesBetween_46 : decode b_g_nodesBetween 46 = .ok (.goto (-41), 3) := by decide +kernel
theorem d_g_nodesBetween_49 : decode b_g_nodesBetween 49 = .ok (.iload_n 3, 1) := by decide +kernel
theorem d_g_nodesBetween_50 : decode b_g_nodesBetween 50 = .ok (.invokestatic 102, 3) := by decide +kernel
theorem d_g_nodesBetween_53 : decode b_g_nodesBetween 53 = .ok (.ireturn, 1) := by decide +kernel
theorem d_g_isMany_0 : decode b_g_isMany 0 = .ok (.iconst 3, 1) := by decide +kernel
theorem d_g_isMany_1 : decode b_g_isMany 1 = .ok (.iload_n 1, 1) := by decide +kernel
theorem d_g_isMany_2 : decode b_g_isMany 2 = .ok (.imul, 1) := by decide +kernel
theorem d_g_isMany_3 : decode b_g_isMany 3 = .ok (.iconst 2, 1) := by decide +kernel
theorem d_g_isMany_4 : decode b_g_isMany 4 = .ok (.aload_n 0, 1) := by decide +kernel
theorem d_g_isMany_5 : decode b_g_isMany 5 = .ok (.getfield 9, 3) := by decide +kernel
theorem d_g_isMany_8 : decode b_g_isMany 8 = .ok (.imul, 1) := by decide +kernel
theorem d_g_isMany_9 : decode b_g_isMany 9 = .ok (.if_icmp .le 7, 3) := by decide +kernel
theorem d_g_isMany_12 : decode b_g_isMany 12 = .ok (.iconst 1, 1) := by decide +kernel
theorem d_g_isMany_13 : decode b_g_isMany 13 = .ok (.goto 4, 3) := by decide +kernel
theorem d_g_isMany_16 : decode b_g_isMany 16 = .ok (.iconst 0, 1) := by decide +kernel
theorem d_g_isMany_17 : decode b_g_isMany 17 = .ok (.ireturn, 1) := by decide +kernel
theorem d_g_roundFrom_0 : decode b_g_roundFrom 0 = .ok (.iload_n 2, 1) := by decide +kernel
theorem d_g_roundFrom_1 : decode b_g_roundFrom 1 = .ok (.iconst (-1), 1) := by decide +kernel
theorem d_g_roundFrom_2 : decode b_g_roundFrom 2 = .ok (.if_icmp .ne 10, 3) := by decide +kernel
theorem d_g_roundFrom_5 : decode b_g_roundFrom 5 = .ok (.iload_n 3, 1) := by decide +kernel
theorem d_g_roundFrom_6 : decode b_g_roundFrom 6 = .ok (.iconst (-1), 1) := by decide +kernel
theorem d_g_roundFrom_7 : decode b_g_roundFrom 7 = .ok (.if_icmp .ne 5, 3) := by decide +kernel
theorem d_g_roundFrom_10 : decode b_g_roundFrom 10 = .ok (.iconst 1, 1) := by decide +kernel
theorem d_g_roundFrom_11 : decode b_g_roundFrom 11 = .ok (.ireturn, 1) := by decide +kernel
theorem d_g_roundFrom_12 : decode b_g_roundFrom 12 = .ok (.aload_n 0, 1) := by decide +kernel
theorem d_g_roundFrom_13 : decode b_g_roundFrom 13 = .ok (.iload_n 2, 1) := by decide +kernel
theorem d_g_roundFrom_14 : decode b_g_roundFrom 14 = .ok (.invokevirtual 137, 3) := by decide +kernel
theorem d_g_roundFrom_17 : decode b_g_roundFrom 17 = .ok (.aload_n 0, 1) := by decide +kernel
theorem d_g_roundFrom_18 : decode b_g_roundFrom 18 = .ok (.iload_n 3, 1) := by decide +kernel
theorem d_g_roundFrom_19 : decode b_g_roundFrom 19 = .ok (.invokevirtual 137, 3) := by decide +kernel
theorem d_g_roundFrom_22 : decode b_g_roundFrom 22 = .ok (.invokestatic 140, 3) := by decide +kernel
theorem d_g_roundFrom_25 : decode b_g_roundFrom 25 = .ok (.istore 4, 2) := by decide +kernel
theorem d_g_roundFrom_27 : decode b_g_roundFrom 27 = .ok (.aload_n 0, 1) := by decide +kernel
theorem d_g_roundFrom_28 : decode b_g_roundFrom 28 = .ok (.aload_n 0, 1) := by decide +kernel
theorem d_g_roundFrom_29 : decode b_g_roundFrom 29 = .ok (.iload_n 1, 1) := by decide +kernel
theorem d_g_roundFrom_30 : decode b_g_roundFrom 30 = .ok (.iload 4, 2) := by decide +kernel
theorem d_g_roundFrom_32 : decode b_g_roundFrom 32 = .ok (.invokevirtual 145, 3) := by decide +kernel
theorem d_g_roundFrom_35 : decode b_g_roundFrom 35 = .ok (.invokevirtual 91, 3) := by decide +kernel
theorem d_g_roundFrom_38 : decode b_g_roundFrom 38 = .ok (.ifCond .eq 10, 3) := by decide +kernel
theorem d_g_roundFrom_41 : decode b_g_roundFrom 41 = .ok (.iload 4, 2) := by decide +kernel
theorem d_g_roundFrom_43 : decode b_g_roundFrom 43 = .ok (.iconst 1, 1) := by decide +kernel
theorem d_g_roundFrom_44 : decode b_g_roundFrom 44 = .ok (.iadd, 1) := by decide +kernel
theorem d_g_roundFrom_45 : decode b_g_roundFrom 45 = .ok (.goto 5, 3) := by decide +kernel
theorem d_g_roundFrom_48 : decode b_g_roundFrom 48 = .ok (.iload 4, 2) := by decide +kernel
theorem d_g_roundFrom_50 : decode b_g_roundFrom 50 = .ok (.ireturn, 1) := by decide +kernel
theorem d_g_roundOfParent_0 : decode b_g_roundOfParent 0 = .ok (.iload_n 1, 1) := by decide +kernel
theorem d_g_roundOfParent_1 : decode b_g_roundOfParent 1 = .ok (.iconst (-1), 1) := by decide +kernel
theorem d_g_roundOfParent_2 : decode b_g_roundOfParent 2 = .ok (.if_icmp .ne 7, 3) := by decide +kernel
theorem d_g_roundOfParent_5 : decode b_g_roundOfParent 5 = .ok (.iconst 0, 1) := by decide +kernel
theorem d_g_roundOfParent_6 : decode b_g_roundOfParent 6 = .ok (.goto 9, 3) := by decide +kernel
theorem d_g_roundOfParent_9 : decode b_g_roundOfParent 9 = .ok (.aload_n 0, 1) := by decide +kernel
theorem d_g_roundOfParent_10 : decode b_g_roundOfParent 10 = .ok (.getfield 23, 3) := by decide +kernel
theorem d_g_roundOfParent_13 : decode b_g_roundOfParent 13 = .ok (.iload_n 1, 1) := by decide +kernel
theorem d_g_roundOfParent_14 : decode b_g_roundOfParent 14 = .ok (.iaload, 1) := by decide +kernel
theorem d_g_roundOfParent_15 : decode b_g_roundOfParent 15 = .ok (.ireturn, 1) := by decide +kernel
theorem d_g_nodesWithWitnessFor_0 : decode b_g_nodesWithWitnessFor 0 = .ok (.iconst 0, 1) := by decide +kernel
theorem d_g_nodesWithWitnessFor_1 : decode b_g_nodesWithWitnessFor 1 = .ok (.istore_n 3, 1) := by decide +kernel
theorem d_g_nodesWithWitnessFor_2 : decode b_g_nodesWithWitnessFor 2 = .ok (.iconst 0, 1) := by decide +kernel
theorem d_g_nodesWithWitnessFor_3 : decode b_g_nodesWithWitnessFor 3 = .ok (.istore 4, 2) := by decide +kernel
theorem d_g_nodesWithWitnessFor_5 : decode b_g_nodesWithWitnessFor 5 = .ok (.iload 4, 2) := by decide +kernel
theorem d_g_nodesWithWitnessFor_7 : decode b_g_nodesWithWitnessFor 7 = .ok (.iload_n 1, 1) := by decide +kernel
theorem d_g_nodesWithWitnessFor_8 : decode b_g_nodesWithWitnessFor 8 = .ok (.if_icmp .ge 55, 3) := by decide +kernel
theorem d_g_nodesWithWitnessFor_11 : decode b_g_nodesWithWitnessFor 11 = .ok (.aload_n 0, 1) := by decide +kernel
theorem d_g_nodesWithWitnessFor_12 : decode b_g_nodesWithWitnessFor 12 = .ok (.getfield 23, 3) := by decide +kernel
theorem d_g_nodesWithWitnessFor_15 : decode b_g_nodesWithWitnessFor 15 = .ok (.iload 4, 2) := by decide +kernel
theorem d_g_nodesWithWitnessFor_17 : decode b_g_nodesWithWitnessFor 17 = .ok (.iaload, 1) := by decide +kernel
theorem d_g_nodesWithWitnessFor_18 : decode b_g_nodesWithWitnessFor 18 = .ok (.iload_n 2, 1) := by decide +kernel
theorem d_g_nodesWithWitnessFor_19 : decode b_g_nodesWithWitnessFor 19 = .ok (.if_icmp .ne 38, 3) := by decide +kernel
theorem d_g_nodesWithWitnessFor_22 : decode b_g_nodesWithWitnessFor 22 = .ok (.aload_n 0, 1) := by decide +kernel
theorem d_g_nodesWithWitnessFor_23 : decode b_g_nodesWithWitnessFor 23 = .ok (.iload 4, 2) := by decide +kernel
theorem d_g_nodesWithWitnessFor_25 : decode b_g_nodesWithWitnessFor 25 = .ok (.invokevirtual 95, 3) := by decide +kernel
theorem d_g_nodesWithWitnessFor_28 : decode b_g_nodesWithWitnessFor 28 = .ok (.ifCond .eq 29, 3) := by decide +kernel
theorem d_g_nodesWithWitnessFor_31 : decode b_g_nodesWithWitnessFor 31 = .ok (.aload_n 0, 1) := by decide +kernel
theorem d_g_nodesWithWitnessFor_32 : decode b_g_nodesWithWitnessFor 32 = .ok (.aload_n 0, 1) := by decide +kernel
theorem d_g_nodesWithWitnessFor_33 : decode b_g_nodesWithWitnessFor 33 = .ok (.iload_n 1, 1) := by decide +kernel
theorem d_g_nodesWithWitnessFor_34 : decode b_g_nodesWithWitnessFor 34 = .ok (.iload 4, 2) := by decide +kernel
theorem d_g_nodesWithWitnessFor_36 : decode b_g_nodesWithWitnessFor 36 = .ok (.invokevirtual 87, 3) := by decide +kernel
theorem d_g_nodesWithWitnessFor_39 : decode b_g_nodesWithWitnessFor 39 = .ok (.invokevirtual 91, 3) := by decide +kernel
theorem d_g_nodesWithWitnessFor_42 : decode b_g_nodesWithWitnessFor 42 = .ok (.ifCond .eq 15, 3) := by decide +kernel
theorem d_g_nodesWithWitnessFor_45 : decode b_g_nodesWithWitnessFor 45 = .ok (.iload_n 3, 1) := by decide +kernel
theorem d_g_nodesWithWitnessFor_46 : decode b_g_nodesWithWitnessFor 46 = .ok (.iconst 1, 1) := by decide +kernel
theorem d_g_nodesWithWitnessFor_47 : decode b_g_nodesWithWitnessFor 47 = .ok (.aload_n 0, 1) := by decide +kernel
theorem d_g_nodesWithWitnessFor_48 : decode b_g_nodesWithWitnessFor 48 = .ok (.getfield 16, 3) := by decide +kernel
theorem d_g_nodesWithWitnessFor_51 : decode b_g_nodesWithWitnessFor 51 = .ok (.iload 4, 2) := by decide +kernel
theorem d_g_nodesWithWitnessFor_53 : decode b_g_nodesWithWitnessFor 53 = .ok (.iaload, 1) := by decide +kernel
theorem d_g_nodesWithWitnessFor_54 : decode b_g_nodesWithWitnessFor 54 = .ok (.ishl, 1) := by decide +kernel
theorem d_g_nodesWithWitnessFor_55 : decode b_g_nodesWithWitnessFor 55 = .ok (.ior, 1) := by decide +kernel
theorem d_g_nodesWithWitnessFor_56 : decode b_g_nodesWithWitnessFor 56 = .ok (.istore_n 3, 1) := by decide +kernel
theorem d_g_nodesWithWitnessFor_57 : decode b_g_nodesWithWitnessFor 57 = .ok (.iinc 4 1, 3) := by decide +kernel
theorem d_g_nodesWithWitnessFor_60 : decode b_g_nodesWithWitnessFor 60 = .ok (.goto (-55), 3) := by decide +kernel
theorem d_g_nodesWithWitnessFor_63 : decode b_g_nodesWithWitnessFor 63 = .ok (.iload_n 3, 1) := by decide +kernel
theorem d_g_nodesWithWitnessFor_64 : decode b_g_nodesWithWitnessFor 64 = .ok (.invokestatic 102, 3) := by decide +kernel
theorem d_g_nodesWithWitnessFor_67 : decode b_g_nodesWithWitnessFor 67 = .ok (.ireturn, 1) := by decide +kernel
theorem d_g_opensRound_0 : decode b_g_opensRound 0 = .ok (.aload_n 0, 1) := by decide +kernel
theorem d_g_opensRound_1 : decode b_g_opensRound 1 = .ok (.getfield 20, 3) := by decide +kernel
theorem d_g_opensRound_4 : decode b_g_opensRound 4 = .ok (.iload_n 1, 1) := by decide +kernel
theorem d_g_opensRound_5 : decode b_g_opensRound 5 = .ok (.iaload, 1) := by decide +kernel
theorem d_g_opensRound_6 : decode b_g_opensRound 6 = .ok (.istore_n 2, 1) := by decide +kernel
theorem d_g_opensRound_7 : decode b_g_opensRound 7 = .ok (.iload_n 2, 1) := by decide +kernel
theorem d_g_opensRound_8 : decode b_g_opensRound 8 = .ok (.iconst (-1), 1) := by decide +kernel
theorem d_g_opensRound_9 : decode b_g_opensRound 9 = .ok (.if_icmp .eq 18, 3) := by decide +kernel
theorem d_g_opensRound_12 : decode b_g_opensRound 12 = .ok (.aload_n 0, 1) := by decide +kernel
theorem d_g_opensRound_13 : decode b_g_opensRound 13 = .ok (.getfield 23, 3) := by decide +kernel
theorem d_g_opensRound_16 : decode b_g_opensRound 16 = .ok (.iload_n 2, 1) := by decide +kernel
theorem d_g_opensRound_17 : decode b_g_opensRound 17 = .ok (.iaload, 1) := by decide +kernel
theorem d_g_opensRound_18 : decode b_g_opensRound 18 = .ok (.aload_n 0, 1) := by decide +kernel
theorem d_g_opensRound_19 : decode b_g_opensRound 19 = .ok (.getfield 23, 3) := by decide +kernel
theorem d_g_opensRound_22 : decode b_g_opensRound 22 = .ok (.iload_n 1, 1) := by decide +kernel
theorem d_g_opensRound_23 : decode b_g_opensRound 23 = .ok (.iaload, 1) := by decide +kernel
theorem d_g_opensRound_24 : decode b_g_opensRound 24 = .ok (.if_icmp .ge 7, 3) := by decide +kernel
theorem d_g_opensRound_27 : decode b_g_opensRound 27 = .ok (.iconst 1, 1) := by decide +kernel
theorem d_g_opensRound_28 : decode b_g_opensRound 28 = .ok (.goto 4, 3) := by decide +kernel
theorem d_g_opensRound_31 : decode b_g_opensRound 31 = .ok (.iconst 0, 1) := by decide +kernel
theorem d_g_opensRound_32 : decode b_g_opensRound 32 = .ok (.ireturn, 1) := by decide +kernel
theorem d_g_greatestRound_0 : decode b_g_greatestRound 0 = .ok (.iconst 0, 1) := by decide +kernel
theorem d_g_greatestRound_1 : decode b_g_greatestRound 1 = .ok (.istore_n 1, 1) := by decide +kernel
theorem d_g_greatestRound_2 : decode b_g_greatestRound 2 = .ok (.iconst 0, 1) := by decide +kernel
theorem d_g_greatestRound_3 : decode b_g_greatestRound 3 = .ok (.istore_n 2, 1) := by decide +kernel
theorem d_g_greatestRound_4 : decode b_g_greatestRound 4 = .ok (.iload_n 2, 1) := by decide +kernel
theorem d_g_greatestRound_5 : decode b_g_greatestRound 5 = .ok (.aload_n 0, 1) := by decide +kernel
theorem d_g_greatestRound_6 : decode b_g_greatestRound 6 = .ok (.getfield 13, 3) := by decide +kernel
theorem d_g_greatestRound_9 : decode b_g_greatestRound 9 = .ok (.if_icmp .ge 20, 3) := by decide +kernel
theorem d_g_greatestRound_12 : decode b_g_greatestRound 12 = .ok (.iload_n 1, 1) := by decide +kernel
theorem d_g_greatestRound_13 : decode b_g_greatestRound 13 = .ok (.aload_n 0, 1) := by decide +kernel
theorem d_g_greatestRound_14 : decode b_g_greatestRound 14 = .ok (.getfield 23, 3) := by decide +kernel
theorem d_g_greatestRound_17 : decode b_g_greatestRound 17 = .ok (.iload_n 2, 1) := by decide +kernel
theorem d_g_greatestRound_18 : decode b_g_greatestRound 18 = .ok (.iaload, 1) := by decide +kernel
theorem d_g_greatestRound_19 : decode b_g_greatestRound 19 = .ok (.invokestatic 140, 3) := by decide +kernel
theorem d_g_greatestRound_22 : decode b_g_greatestRound 22 = .ok (.istore_n 1, 1) := by decide +kernel
theorem d_g_greatestRound_23 : decode b_g_greatestRound 23 = .ok (.iinc 2 1, 3) := by decide +kernel
theorem d_g_greatestRound_26 : decode b_g_greatestRound 26 = .ok (.goto (-22), 3) := by decide +kernel
theorem d_g_greatestRound_29 : decode b_g_greatestRound 29 = .ok (.iload_n 1, 1) := by decide +kernel
theorem d_g_greatestRound_30 : decode b_g_greatestRound 30 = .ok (.ireturn, 1) := by decide +kernel
