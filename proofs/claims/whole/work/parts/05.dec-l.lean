theorem d_l_begin_0 : decode b_l_begin 0 = .ok (.aload_n 0, 1) := by decide +kernel
theorem d_l_begin_1 : decode b_l_begin 1 = .ok (.iload_n 1, 1) := by decide +kernel
theorem d_l_begin_2 : decode b_l_begin 2 = .ok (.invokevirtual 7, 3) := by decide +kernel
theorem d_l_begin_5 : decode b_l_begin 5 = .ok (.goto 6, 3) := by decide +kernel
theorem d_l_begin_8 : decode b_l_begin 8 = .ok (.astore_n 2, 1) := by decide +kernel
theorem d_l_begin_9 : decode b_l_begin 9 = .ok (.iconst 1, 1) := by decide +kernel
theorem d_l_begin_10 : decode b_l_begin 10 = .ok (.ireturn, 1) := by decide +kernel
theorem d_l_begin_11 : decode b_l_begin 11 = .ok (.iconst 0, 1) := by decide +kernel
theorem d_l_begin_12 : decode b_l_begin 12 = .ok (.ireturn, 1) := by decide +kernel
theorem d_l_event_0 : decode b_l_event 0 = .ok (.aload 4, 2) := by decide +kernel
theorem d_l_event_2 : decode b_l_event 2 = .ok (.iconst 0, 1) := by decide +kernel
theorem d_l_event_3 : decode b_l_event 3 = .ok (.aload_n 0, 1) := by decide +kernel
theorem d_l_event_4 : decode b_l_event 4 = .ok (.iload_n 1, 1) := by decide +kernel
theorem d_l_event_5 : decode b_l_event 5 = .ok (.iload_n 2, 1) := by decide +kernel
theorem d_l_event_6 : decode b_l_event 6 = .ok (.iload_n 3, 1) := by decide +kernel
theorem d_l_event_7 : decode b_l_event 7 = .ok (.invokevirtual 15, 3) := by decide +kernel
theorem d_l_event_10 : decode b_l_event 10 = .ok (.i2l, 1) := by decide +kernel
theorem d_l_event_11 : decode b_l_event 11 = .ok (.lastore, 1) := by decide +kernel
theorem d_l_event_12 : decode b_l_event 12 = .ok (.goto 11, 3) := by decide +kernel
theorem d_l_event_15 : decode b_l_event 15 = .ok (.astore 5, 2) := by decide +kernel
theorem d_l_event_17 : decode b_l_event 17 = .ok (.iconst 1, 1) := by decide +kernel
theorem d_l_event_18 : decode b_l_event 18 = .ok (.ireturn, 1) := by decide +kernel
theorem d_l_event_19 : decode b_l_event 19 = .ok (.astore 5, 2) := by decide +kernel
theorem d_l_event_21 : decode b_l_event 21 = .ok (.iconst 2, 1) := by decide +kernel
theorem d_l_event_22 : decode b_l_event 22 = .ok (.ireturn, 1) := by decide +kernel
theorem d_l_event_23 : decode b_l_event 23 = .ok (.iconst 0, 1) := by decide +kernel
theorem d_l_event_24 : decode b_l_event 24 = .ok (.ireturn, 1) := by decide +kernel
theorem d_l_ancestor_0 : decode b_l_ancestor 0 = .ok (.aload_n 3, 1) := by decide +kernel
theorem d_l_ancestor_1 : decode b_l_ancestor 1 = .ok (.iconst 0, 1) := by decide +kernel
theorem d_l_ancestor_2 : decode b_l_ancestor 2 = .ok (.aload_n 0, 1) := by decide +kernel
theorem d_l_ancestor_3 : decode b_l_ancestor 3 = .ok (.iload_n 1, 1) := by decide +kernel
theorem d_l_ancestor_4 : decode b_l_ancestor 4 = .ok (.iload_n 2, 1) := by decide +kernel
theorem d_l_ancestor_5 : decode b_l_ancestor 5 = .ok (.invokevirtual 21, 3) := by decide +kernel
theorem d_l_ancestor_8 : decode b_l_ancestor 8 = .ok (.ifCond .eq 7, 3) := by decide +kernel
theorem d_l_ancestor_11 : decode b_l_ancestor 11 = .ok (.lconst 1, 1) := by decide +kernel
theorem d_l_ancestor_12 : decode b_l_ancestor 12 = .ok (.goto 4, 3) := by decide +kernel
theorem d_l_ancestor_15 : decode b_l_ancestor 15 = .ok (.lconst 0, 1) := by decide +kernel
theorem d_l_ancestor_16 : decode b_l_ancestor 16 = .ok (.lastore, 1) := by decide +kernel
theorem d_l_ancestor_17 : decode b_l_ancestor 17 = .ok (.goto 7, 3) := by decide +kernel
theorem d_l_ancestor_20 : decode b_l_ancestor 20 = .ok (.astore 4, 2) := by decide +kernel
theorem d_l_ancestor_22 : decode b_l_ancestor 22 = .ok (.iconst 1, 1) := by decide +kernel
theorem d_l_ancestor_23 : decode b_l_ancestor 23 = .ok (.ireturn, 1) := by decide +kernel
theorem d_l_ancestor_24 : decode b_l_ancestor 24 = .ok (.iconst 0, 1) := by decide +kernel
theorem d_l_ancestor_25 : decode b_l_ancestor 25 = .ok (.ireturn, 1) := by decide +kernel
theorem d_l_own_0 : decode b_l_own 0 = .ok (.aload_n 3, 1) := by decide +kernel
theorem d_l_own_1 : decode b_l_own 1 = .ok (.iconst 0, 1) := by decide +kernel
theorem d_l_own_2 : decode b_l_own 2 = .ok (.aload_n 0, 1) := by decide +kernel
theorem d_l_own_3 : decode b_l_own 3 = .ok (.iload_n 1, 1) := by decide +kernel
theorem d_l_own_4 : decode b_l_own 4 = .ok (.iload_n 2, 1) := by decide +kernel
theorem d_l_own_5 : decode b_l_own 5 = .ok (.invokevirtual 25, 3) := by decide +kernel
theorem d_l_own_8 : decode b_l_own 8 = .ok (.ifCond .eq 7, 3) := by decide +kernel
theorem d_l_own_11 : decode b_l_own 11 = .ok (.lconst 1, 1) := by decide +kernel
theorem d_l_own_12 : decode b_l_own 12 = .ok (.goto 4, 3) := by decide +kernel
theorem d_l_own_15 : decode b_l_own 15 = .ok (.lconst 0, 1) := by decide +kernel
theorem d_l_own_16 : decode b_l_own 16 = .ok (.lastore, 1) := by decide +kernel
theorem d_l_own_17 : decode b_l_own 17 = .ok (.goto 7, 3) := by decide +kernel
theorem d_l_own_20 : decode b_l_own 20 = .ok (.astore 4, 2) := by decide +kernel
theorem d_l_own_22 : decode b_l_own 22 = .ok (.iconst 1, 1) := by decide +kernel
theorem d_l_own_23 : decode b_l_own 23 = .ok (.ireturn, 1) := by decide +kernel
theorem d_l_own_24 : decode b_l_own 24 = .ok (.iconst 0, 1) := by decide +kernel
theorem d_l_own_25 : decode b_l_own 25 = .ok (.ireturn, 1) := by decide +kernel
theorem d_l_forked_0 : decode b_l_forked 0 = .ok (.aload_n 3, 1) := by decide +kernel
theorem d_l_forked_1 : decode b_l_forked 1 = .ok (.iconst 0, 1) := by decide +kernel
theorem d_l_forked_2 : decode b_l_forked 2 = .ok (.aload_n 0, 1) := by decide +kernel
theorem d_l_forked_3 : decode b_l_forked 3 = .ok (.iload_n 1, 1) := by decide +kernel
theorem d_l_forked_4 : decode b_l_forked 4 = .ok (.iload_n 2, 1) := by decide +kernel
theorem d_l_forked_5 : decode b_l_forked 5 = .ok (.invokevirtual 28, 3) := by decide +kernel
theorem d_l_forked_8 : decode b_l_forked 8 = .ok (.ifCond .eq 7, 3) := by decide +kernel
theorem d_l_forked_11 : decode b_l_forked 11 = .ok (.lconst 1, 1) := by decide +kernel
theorem d_l_forked_12 : decode b_l_forked 12 = .ok (.goto 4, 3) := by decide +kernel
theorem d_l_forked_15 : decode b_l_forked 15 = .ok (.lconst 0, 1) := by decide +kernel
theorem d_l_forked_16 : decode b_l_forked 16 = .ok (.lastore, 1) := by decide +kernel
theorem d_l_forked_17 : decode b_l_forked 17 = .ok (.goto 11, 3) := by decide +kernel
theorem d_l_forked_20 : decode b_l_forked 20 = .ok (.astore 4, 2) := by decide +kernel
theorem d_l_forked_22 : decode b_l_forked 22 = .ok (.iconst 1, 1) := by decide +kernel
theorem d_l_forked_23 : decode b_l_forked 23 = .ok (.ireturn, 1) := by decide +kernel
theorem d_l_forked_24 : decode b_l_forked 24 = .ok (.astore 4, 2) := by decide +kernel
theorem d_l_forked_26 : decode b_l_forked 26 = .ok (.iconst 2, 1) := by decide +kernel
theorem d_l_forked_27 : decode b_l_forked 27 = .ok (.ireturn, 1) := by decide +kernel
theorem d_l_forked_28 : decode b_l_forked 28 = .ok (.iconst 0, 1) := by decide +kernel
theorem d_l_forked_29 : decode b_l_forked 29 = .ok (.ireturn, 1) := by decide +kernel
theorem d_l_sees_0 : decode b_l_sees 0 = .ok (.aload_n 3, 1) := by decide +kernel
theorem d_l_sees_1 : decode b_l_sees 1 = .ok (.iconst 0, 1) := by decide +kernel
theorem d_l_sees_2 : decode b_l_sees 2 = .ok (.aload_n 0, 1) := by decide +kernel
theorem d_l_sees_3 : decode b_l_sees 3 = .ok (.iload_n 1, 1) := by decide +kernel
theorem d_l_sees_4 : decode b_l_sees 4 = .ok (.iload_n 2, 1) := by decide +kernel
theorem d_l_sees_5 : decode b_l_sees 5 = .ok (.invokevirtual 31, 3) := by decide +kernel
theorem d_l_sees_8 : decode b_l_sees 8 = .ok (.ifCond .eq 7, 3) := by decide +kernel
theorem d_l_sees_11 : decode b_l_sees 11 = .ok (.lconst 1, 1) := by decide +kernel
theorem d_l_sees_12 : decode b_l_sees 12 = .ok (.goto 4, 3) := by decide +kernel
theorem d_l_sees_15 : decode b_l_sees 15 = .ok (.lconst 0, 1) := by decide +kernel
theorem d_l_sees_16 : decode b_l_sees 16 = .ok (.lastore, 1) := by decide +kernel
theorem d_l_sees_17 : decode b_l_sees 17 = .ok (.goto 7, 3) := by decide +kernel
theorem d_l_sees_20 : decode b_l_sees 20 = .ok (.astore 4, 2) := by decide +kernel
theorem d_l_sees_22 : decode b_l_sees 22 = .ok (.iconst 1, 1) := by decide +kernel
theorem d_l_sees_23 : decode b_l_sees 23 = .ok (.ireturn, 1) := by decide +kernel
theorem d_l_sees_24 : decode b_l_sees 24 = .ok (.iconst 0, 1) := by decide +kernel
theorem d_l_sees_25 : decode b_l_sees 25 = .ok (.ireturn, 1) := by decide +kernel
theorem d_l_strength_0 : decode b_l_strength 0 = .ok (.aload_n 3, 1) := by decide +kernel
theorem d_l_strength_1 : decode b_l_strength 1 = .ok (.iconst 0, 1) := by decide +kernel
theorem d_l_strength_2 : decode b_l_strength 2 = .ok (.aload_n 0, 1) := by decide +kernel
theorem d_l_strength_3 : decode b_l_strength 3 = .ok (.iload_n 1, 1) := by decide +kernel
theorem d_l_strength_4 : decode b_l_strength 4 = .ok (.iload_n 2, 1) := by decide +kernel
theorem d_l_strength_5 : decode b_l_strength 5 = .ok (.invokevirtual 34, 3) := by decide +kernel
theorem d_l_strength_8 : decode b_l_strength 8 = .ok (.i2l, 1) := by decide +kernel
theorem d_l_strength_9 : decode b_l_strength 9 = .ok (.lastore, 1) := by decide +kernel
theorem d_l_strength_10 : decode b_l_strength 10 = .ok (.goto 7, 3) := by decide +kernel
theorem d_l_strength_13 : decode b_l_strength 13 = .ok (.astore 4, 2) := by decide +kernel
theorem d_l_strength_15 : decode b_l_strength 15 = .ok (.iconst 1, 1) := by decide +kernel
theorem d_l_strength_16 : decode b_l_strength 16 = .ok (.ireturn, 1) := by decide +kernel
theorem d_l_strength_17 : decode b_l_strength 17 = .ok (.iconst 0, 1) := by decide +kernel
theorem d_l_strength_18 : decode b_l_strength 18 = .ok (.ireturn, 1) := by decide +kernel
theorem d_l_strongly_0 : decode b_l_strongly 0 = .ok (.aload_n 3, 1) := by decide +kernel
theorem d_l_strongly_1 : decode b_l_strongly 1 = .ok (.iconst 0, 1) := by decide +kernel
theorem d_l_strongly_2 : decode b_l_strongly 2 = .ok (.aload_n 0, 1) := by decide +kernel
theorem d_l_strongly_3 : decode b_l_strongly 3 = .ok (.iload_n 1, 1) := by decide +kernel
theorem d_l_strongly_4 : decode b_l_strongly 4 = .ok (.iload_n 2, 1) := by decide +kernel
theorem d_l_strongly_5 : decode b_l_strongly 5 = .ok (.invokevirtual 38, 3) := by decide +kernel
theorem d_l_strongly_8 : decode b_l_strongly 8 = .ok (.ifCond .eq 7, 3) := by decide +kernel
theorem d_l_strongly_11 : decode b_l_strongly 11 = .ok (.lconst 1, 1) := by decide +kernel
theorem d_l_strongly_12 : decode b_l_strongly 12 = .ok (.goto 4, 3) := by decide +kernel
theorem d_l_strongly_15 : decode b_l_strongly 15 = .ok (.lconst 0, 1) := by decide +kernel
theorem d_l_strongly_16 : decode b_l_strongly 16 = .ok (.lastore, 1) := by decide +kernel
theorem d_l_strongly_17 : decode b_l_strongly 17 = .ok (.goto 7, 3) := by decide +kernel
theorem d_l_strongly_20 : decode b_l_strongly 20 = .ok (.astore 4, 2) := by decide +kernel
theorem d_l_strongly_22 : decode b_l_strongly 22 = .ok (.iconst 1, 1) := by decide +kernel
theorem d_l_strongly_23 : decode b_l_strongly 23 = .ok (.ireturn, 1) := by decide +kernel
theorem d_l_strongly_24 : decode b_l_strongly 24 = .ok (.iconst 0, 1) := by decide +kernel
theorem d_l_strongly_25 : decode b_l_strongly 25 = .ok (.ireturn, 1) := by decide +kernel
theorem d_l_round_0 : decode b_l_round 0 = .ok (.aload_n 2, 1) := by decide +kernel
theorem d_l_round_1 : decode b_l_round 1 = .ok (.iconst 0, 1) := by decide +kernel
theorem d_l_round_2 : decode b_l_round 2 = .ok (.aload_n 0, 1) := by decide +kernel
theorem d_l_round_3 : decode b_l_round 3 = .ok (.iload_n 1, 1) := by decide +kernel
theorem d_l_round_4 : decode b_l_round 4 = .ok (.invokevirtual 41, 3) := by decide +kernel
theorem d_l_round_7 : decode b_l_round 7 = .ok (.i2l, 1) := by decide +kernel
theorem d_l_round_8 : decode b_l_round 8 = .ok (.lastore, 1) := by decide +kernel
theorem d_l_round_9 : decode b_l_round 9 = .ok (.goto 6, 3) := by decide +kernel
theorem d_l_round_12 : decode b_l_round 12 = .ok (.astore_n 3, 1) := by decide +kernel
theorem d_l_round_13 : decode b_l_round 13 = .ok (.iconst 1, 1) := by decide +kernel
theorem d_l_round_14 : decode b_l_round 14 = .ok (.ireturn, 1) := by decide +kernel
theorem d_l_round_15 : decode b_l_round 15 = .ok (.iconst 0, 1) := by decide +kernel
theorem d_l_round_16 : decode b_l_round 16 = .ok (.ireturn, 1) := by decide +kernel
theorem d_l_witness_0 : decode b_l_witness 0 = .ok (.aload_n 2, 1) := by decide +kernel
theorem d_l_witness_1 : decode b_l_witness 1 = .ok (.iconst 0, 1) := by decide +kernel
theorem d_l_witness_2 : decode b_l_witness 2 = .ok (.aload_n 0, 1) := by decide +kernel
theorem d_l_witness_3 : decode b_l_witness 3 = .ok (.iload_n 1, 1) := by decide +kernel
theorem d_l_witness_4 : decode b_l_witness 4 = .ok (.invokevirtual 45, 3) := by decide +kernel
theorem d_l_witness_7 : decode b_l_witness 7 = .ok (.ifCond .eq 7, 3) := by decide +kernel
theorem d_l_witness_10 : decode b_l_witness 10 = .ok (.lconst 1, 1) := by decide +kernel
theorem d_l_witness_11 : decode b_l_witness 11 = .ok (.goto 4, 3) := by decide +kernel
theorem d_l_witness_14 : decode b_l_witness 14 = .ok (.lconst 0, 1) := by decide +kernel
theorem d_l_witness_15 : decode b_l_witness 15 = .ok (.lastore, 1) := by decide +kernel
theorem d_l_witness_16 : decode b_l_witness 16 = .ok (.goto 6, 3) := by decide +kernel
theorem d_l_witness_19 : decode b_l_witness 19 = .ok (.astore_n 3, 1) := by decide +kernel
theorem d_l_witness_20 : decode b_l_witness 20 = .ok (.iconst 1, 1) := by decide +kernel
theorem d_l_witness_21 : decode b_l_witness 21 = .ok (.ireturn, 1) := by decide +kernel
theorem d_l_witness_22 : decode b_l_witness 22 = .ok (.iconst 0, 1) := by decide +kernel
theorem d_l_witness_23 : decode b_l_witness 23 = .ok (.ireturn, 1) := by decide +kernel
theorem d_l_count_0 : decode b_l_count 0 = .ok (.aload_n 2, 1) := by decide +kernel
theorem d_l_count_1 : decode b_l_count 1 = .ok (.iconst 0, 1) := by decide +kernel
theorem d_l_count_2 : decode b_l_count 2 = .ok (.aload_n 0, 1) := by decide +kernel
theorem d_l_count_3 : decode b_l_count 3 = .ok (.iload_n 1, 1) := by decide +kernel
theorem d_l_count_4 : decode b_l_count 4 = .ok (.invokevirtual 49, 3) := by decide +kernel
theorem d_l_count_7 : decode b_l_count 7 = .ok (.i2l, 1) := by decide +kernel
theorem d_l_count_8 : decode b_l_count 8 = .ok (.lastore, 1) := by decide +kernel
theorem d_l_count_9 : decode b_l_count 9 = .ok (.goto 6, 3) := by decide +kernel
theorem d_l_count_12 : decode b_l_count 12 = .ok (.astore_n 3, 1) := by decide +kernel
theorem d_l_count_13 : decode b_l_count 13 = .ok (.iconst 1, 1) := by decide +kernel
theorem d_l_count_14 : decode b_l_count 14 = .ok (.ireturn, 1) := by decide +kernel
theorem d_l_count_15 : decode b_l_count 15 = .ok (.iconst 0, 1) := by decide +kernel
theorem d_l_count_16 : decode b_l_count 16 = .ok (.ireturn, 1) := by decide +kernel
theorem d_l_law_0 : decode code 0 = .ok (.new 8, 3) := by decide +kernel
theorem d_l_law_3 : decode code 3 = .ok (.dup, 1) := by decide +kernel
theorem d_l_law_4 : decode code 4 = .ok (.invokespecial 52, 3) := by decide +kernel
theorem d_l_law_7 : decode code 7 = .ok (.astore_n 1, 1) := by decide +kernel
theorem d_l_law_8 : decode code 8 = .ok (.new 53, 3) := by decide +kernel
theorem d_l_law_11 : decode code 11 = .ok (.dup, 1) := by decide +kernel
theorem d_l_law_12 : decode code 12 = .ok (.invokespecial 55, 3) := by decide +kernel
theorem d_l_law_15 : decode code 15 = .ok (.astore_n 2, 1) := by decide +kernel
theorem d_l_law_16 : decode code 16 = .ok (.iconst 1, 1) := by decide +kernel
theorem d_l_law_17 : decode code 17 = .ok (.newarray .long, 2) := by decide +kernel
theorem d_l_law_19 : decode code 19 = .ok (.astore_n 3, 1) := by decide +kernel
theorem d_l_law_20 : decode code 20 = .ok (.iconst 0, 1) := by decide +kernel
theorem d_l_law_21 : decode code 21 = .ok (.istore 4, 2) := by decide +kernel
theorem d_l_law_23 : decode code 23 = .ok (.iload 4, 2) := by decide +kernel
theorem d_l_law_25 : decode code 25 = .ok (.aload_n 0, 1) := by decide +kernel
theorem d_l_law_26 : decode code 26 = .ok (.arraylength, 1) := by decide +kernel
theorem d_l_law_27 : decode code 27 = .ok (.iconst 4, 1) := by decide +kernel
theorem d_l_law_28 : decode code 28 = .ok (.isub, 1) := by decide +kernel
theorem d_l_law_29 : decode code 29 = .ok (.if_icmp .gt 807, 3) := by decide +kernel
theorem d_l_law_32 : decode code 32 = .ok (.aload_n 0, 1) := by decide +kernel
theorem d_l_law_33 : decode code 33 = .ok (.iload 4, 2) := by decide +kernel
theorem d_l_law_35 : decode code 35 = .ok (.iaload, 1) := by decide +kernel
theorem d_l_law_36 : decode code 36 = .ok (.bipush 15, 2) := by decide +kernel
theorem d_l_law_38 : decode code 38 = .ok (.iand, 1) := by decide +kernel
theorem d_l_law_39 : decode code 39 = .ok (.tableswitch 791 0 10 #[57, 93, 173, 248, 323, 398, 473, 541, 616, 672, 735], 57) := by decide +kernel
theorem d_l_law_96 : decode code 96 = .ok (.aload_n 1, 1) := by decide +kernel
theorem d_l_law_97 : decode code 97 = .ok (.aload_n 0, 1) := by decide +kernel
theorem d_l_law_98 : decode code 98 = .ok (.iload 4, 2) := by decide +kernel
theorem d_l_law_100 : decode code 100 = .ok (.iconst 1, 1) := by decide +kernel
theorem d_l_law_101 : decode code 101 = .ok (.iadd, 1) := by decide +kernel
theorem d_l_law_102 : decode code 102 = .ok (.iaload, 1) := by decide +kernel
theorem d_l_law_103 : decode code 103 = .ok (.invokestatic 56, 3) := by decide +kernel
theorem d_l_law_106 : decode code 106 = .ok (.istore 5, 2) := by decide +kernel
theorem d_l_law_108 : decode code 108 = .ok (.aload_n 2, 1) := by decide +kernel
theorem d_l_law_109 : decode code 109 = .ok (.aload_n 0, 1) := by decide +kernel
theorem d_l_law_110 : decode code 110 = .ok (.iload 4, 2) := by decide +kernel
theorem d_l_law_112 : decode code 112 = .ok (.iconst 1, 1) := by decide +kernel
theorem d_l_law_113 : decode code 113 = .ok (.iadd, 1) := by decide +kernel
theorem d_l_law_114 : decode code 114 = .ok (.iaload, 1) := by decide +kernel
theorem d_l_law_115 : decode code 115 = .ok (.invokevirtual 61, 3) := by decide +kernel
theorem d_l_law_118 : decode code 118 = .ok (.aload_n 2, 1) := by decide +kernel
theorem d_l_law_119 : decode code 119 = .ok (.invokevirtual 62, 3) := by decide +kernel
theorem d_l_law_122 : decode code 122 = .ok (.iload 5, 2) := by decide +kernel
theorem d_l_law_124 : decode code 124 = .ok (.if_icmp .eq 5, 3) := by decide +kernel
theorem d_l_law_127 : decode code 127 = .ok (.iconst 0, 1) := by decide +kernel
theorem d_l_law_128 : decode code 128 = .ok (.ireturn, 1) := by decide +kernel
theorem d_l_law_129 : decode code 129 = .ok (.goto 701, 3) := by decide +kernel
theorem d_l_law_132 : decode code 132 = .ok (.aload_n 1, 1) := by decide +kernel
theorem d_l_law_133 : decode code 133 = .ok (.aload_n 0, 1) := by decide +kernel
theorem d_l_law_134 : decode code 134 = .ok (.iload 4, 2) := by decide +kernel
theorem d_l_law_136 : decode code 136 = .ok (.iconst 1, 1) := by decide +kernel
theorem d_l_law_137 : decode code 137 = .ok (.iadd, 1) := by decide +kernel
theorem d_l_law_138 : decode code 138 = .ok (.iaload, 1) := by decide +kernel
theorem d_l_law_139 : decode code 139 = .ok (.aload_n 0, 1) := by decide +kernel
theorem d_l_law_140 : decode code 140 = .ok (.iload 4, 2) := by decide +kernel
theorem d_l_law_142 : decode code 142 = .ok (.iconst 2, 1) := by decide +kernel
theorem d_l_law_143 : decode code 143 = .ok (.iadd, 1) := by decide +kernel
theorem d_l_law_144 : decode code 144 = .ok (.iaload, 1) := by decide +kernel
theorem d_l_law_145 : decode code 145 = .ok (.aload_n 0, 1) := by decide +kernel
theorem d_l_law_146 : decode code 146 = .ok (.iload 4, 2) := by decide +kernel
theorem d_l_law_148 : decode code 148 = .ok (.iconst 3, 1) := by decide +kernel
theorem d_l_law_149 : decode code 149 = .ok (.iadd, 1) := by decide +kernel
theorem d_l_law_150 : decode code 150 = .ok (.iaload, 1) := by decide +kernel
theorem d_l_law_151 : decode code 151 = .ok (.aload_n 3, 1) := by decide +kernel
theorem d_l_law_152 : decode code 152 = .ok (.invokestatic 66, 3) := by decide +kernel
theorem d_l_law_155 : decode code 155 = .ok (.istore 5, 2) := by decide +kernel
theorem d_l_law_157 : decode code 157 = .ok (.aload_n 2, 1) := by decide +kernel
theorem d_l_law_158 : decode code 158 = .ok (.aload_n 0, 1) := by decide +kernel
theorem d_l_law_159 : decode code 159 = .ok (.iload 4, 2) := by decide +kernel
theorem d_l_law_161 : decode code 161 = .ok (.iconst 1, 1) := by decide +kernel
theorem d_l_law_162 : decode code 162 = .ok (.iadd, 1) := by decide +kernel
theorem d_l_law_163 : decode code 163 = .ok (.iaload, 1) := by decide +kernel
theorem d_l_law_164 : decode code 164 = .ok (.aload_n 0, 1) := by decide +kernel
theorem d_l_law_165 : decode code 165 = .ok (.iload 4, 2) := by decide +kernel
theorem d_l_law_167 : decode code 167 = .ok (.iconst 2, 1) := by decide +kernel
theorem d_l_law_168 : decode code 168 = .ok (.iadd, 1) := by decide +kernel
theorem d_l_law_169 : decode code 169 = .ok (.iaload, 1) := by decide +kernel
theorem d_l_law_170 : decode code 170 = .ok (.aload_n 0, 1) := by decide +kernel
theorem d_l_law_171 : decode code 171 = .ok (.iload 4, 2) := by decide +kernel
theorem d_l_law_173 : decode code 173 = .ok (.iconst 3, 1) := by decide +kernel
theorem d_l_law_174 : decode code 174 = .ok (.iadd, 1) := by decide +kernel
theorem d_l_law_175 : decode code 175 = .ok (.iaload, 1) := by decide +kernel
theorem d_l_law_176 : decode code 176 = .ok (.invokevirtual 69, 3) := by decide +kernel
theorem d_l_law_179 : decode code 179 = .ok (.istore 6, 2) := by decide +kernel
theorem d_l_law_181 : decode code 181 = .ok (.aload_n 2, 1) := by decide +kernel
theorem d_l_law_182 : decode code 182 = .ok (.invokevirtual 62, 3) := by decide +kernel
theorem d_l_law_185 : decode code 185 = .ok (.iload 5, 2) := by decide +kernel
theorem d_l_law_187 : decode code 187 = .ok (.if_icmp .eq 5, 3) := by decide +kernel
theorem d_l_law_190 : decode code 190 = .ok (.iconst 0, 1) := by decide +kernel
theorem d_l_law_191 : decode code 191 = .ok (.ireturn, 1) := by decide +kernel
theorem d_l_law_192 : decode code 192 = .ok (.iload 5, 2) := by decide +kernel
theorem d_l_law_194 : decode code 194 = .ok (.ifCond .ne 15, 3) := by decide +kernel
theorem d_l_law_197 : decode code 197 = .ok (.aload_n 3, 1) := by decide +kernel
theorem d_l_law_198 : decode code 198 = .ok (.iconst 0, 1) := by decide +kernel
theorem d_l_law_199 : decode code 199 = .ok (.laload, 1) := by decide +kernel
theorem d_l_law_200 : decode code 200 = .ok (.iload 6, 2) := by decide +kernel
theorem d_l_law_202 : decode code 202 = .ok (.i2l, 1) := by decide +kernel
theorem d_l_law_203 : decode code 203 = .ok (.lcmp, 1) := by decide +kernel
theorem d_l_law_204 : decode code 204 = .ok (.ifCond .eq 5, 3) := by decide +kernel
theorem d_l_law_207 : decode code 207 = .ok (.iconst 0, 1) := by decide +kernel
theorem d_l_law_208 : decode code 208 = .ok (.ireturn, 1) := by decide +kernel
theorem d_l_law_209 : decode code 209 = .ok (.goto 621, 3) := by decide +kernel
theorem d_l_law_212 : decode code 212 = .ok (.aload_n 1, 1) := by decide +kernel
theorem d_l_law_213 : decode code 213 = .ok (.aload_n 0, 1) := by decide +kernel
theorem d_l_law_214 : decode code 214 = .ok (.iload 4, 2) := by decide +kernel
theorem d_l_law_216 : decode code 216 = .ok (.iconst 1, 1) := by decide +kernel
theorem d_l_law_217 : decode code 217 = .ok (.iadd, 1) := by decide +kernel
theorem d_l_law_218 : decode code 218 = .ok (.iaload, 1) := by decide +kernel
theorem d_l_law_219 : decode code 219 = .ok (.aload_n 0, 1) := by decide +kernel
theorem d_l_law_220 : decode code 220 = .ok (.iload 4, 2) := by decide +kernel
theorem d_l_law_222 : decode code 222 = .ok (.iconst 2, 1) := by decide +kernel
theorem d_l_law_223 : decode code 223 = .ok (.iadd, 1) := by decide +kernel
theorem d_l_law_224 : decode code 224 = .ok (.iaload, 1) := by decide +kernel
theorem d_l_law_225 : decode code 225 = .ok (.aload_n 3, 1) := by decide +kernel
theorem d_l_law_226 : decode code 226 = .ok (.invokestatic 70, 3) := by decide +kernel
theorem d_l_law_229 : decode code 229 = .ok (.istore 5, 2) := by decide +kernel
theorem d_l_law_231 : decode code 231 = .ok (.aload_n 2, 1) := by decide +kernel
theorem d_l_law_232 : decode code 232 = .ok (.aload_n 0, 1) := by decide +kernel
theorem d_l_law_233 : decode code 233 = .ok (.iload 4, 2) := by decide +kernel
theorem d_l_law_235 : decode code 235 = .ok (.iconst 1, 1) := by decide +kernel
theorem d_l_law_236 : decode code 236 = .ok (.iadd, 1) := by decide +kernel
theorem d_l_law_237 : decode code 237 = .ok (.iaload, 1) := by decide +kernel
theorem d_l_law_238 : decode code 238 = .ok (.aload_n 0, 1) := by decide +kernel
theorem d_l_law_239 : decode code 239 = .ok (.iload 4, 2) := by decide +kernel
theorem d_l_law_241 : decode code 241 = .ok (.iconst 2, 1) := by decide +kernel
theorem d_l_law_242 : decode code 242 = .ok (.iadd, 1) := by decide +kernel
theorem d_l_law_243 : decode code 243 = .ok (.iaload, 1) := by decide +kernel
theorem d_l_law_244 : decode code 244 = .ok (.invokevirtual 73, 3) := by decide +kernel
theorem d_l_law_247 : decode code 247 = .ok (.istore 6, 2) := by decide +kernel
theorem d_l_law_249 : decode code 249 = .ok (.aload_n 2, 1) := by decide +kernel
theorem d_l_law_250 : decode code 250 = .ok (.invokevirtual 62, 3) := by decide +kernel
theorem d_l_law_253 : decode code 253 = .ok (.iload 5, 2) := by decide +kernel
theorem d_l_law_255 : decode code 255 = .ok (.if_icmp .eq 5, 3) := by decide +kernel
theorem d_l_law_258 : decode code 258 = .ok (.iconst 0, 1) := by decide +kernel
theorem d_l_law_259 : decode code 259 = .ok (.ireturn, 1) := by decide +kernel
theorem d_l_law_260 : decode code 260 = .ok (.iload 5, 2) := by decide +kernel
theorem d_l_law_262 : decode code 262 = .ok (.ifCond .ne 22, 3) := by decide +kernel
theorem d_l_law_265 : decode code 265 = .ok (.aload_n 3, 1) := by decide +kernel
theorem d_l_law_266 : decode code 266 = .ok (.iconst 0, 1) := by decide +kernel
theorem d_l_law_267 : decode code 267 = .ok (.laload, 1) := by decide +kernel
theorem d_l_law_268 : decode code 268 = .ok (.iload 6, 2) := by decide +kernel
theorem d_l_law_270 : decode code 270 = .ok (.ifCond .eq 7, 3) := by decide +kernel
theorem d_l_law_273 : decode code 273 = .ok (.lconst 1, 1) := by decide +kernel
theorem d_l_law_274 : decode code 274 = .ok (.goto 4, 3) := by decide +kernel
theorem d_l_law_277 : decode code 277 = .ok (.lconst 0, 1) := by decide +kernel
theorem d_l_law_278 : decode code 278 = .ok (.lcmp, 1) := by decide +kernel
theorem d_l_law_279 : decode code 279 = .ok (.ifCond .eq 5, 3) := by decide +kernel
theorem d_l_law_282 : decode code 282 = .ok (.iconst 0, 1) := by decide +kernel
theorem d_l_law_283 : decode code 283 = .ok (.ireturn, 1) := by decide +kernel
theorem d_l_law_284 : decode code 284 = .ok (.goto 546, 3) := by decide +kernel
theorem d_l_law_287 : decode code 287 = .ok (.aload_n 1, 1) := by decide +kernel
theorem d_l_law_288 : decode code 288 = .ok (.aload_n 0, 1) := by decide +kernel
theorem d_l_law_289 : decode code 289 = .ok (.iload 4, 2) := by decide +kernel
theorem d_l_law_291 : decode code 291 = .ok (.iconst 1, 1) := by decide +kernel
theorem d_l_law_292 : decode code 292 = .ok (.iadd, 1) := by decide +kernel
theorem d_l_law_293 : decode code 293 = .ok (.iaload, 1) := by decide +kernel
theorem d_l_law_294 : decode code 294 = .ok (.aload_n 0, 1) := by decide +kernel
theorem d_l_law_295 : decode code 295 = .ok (.iload 4, 2) := by decide +kernel
theorem d_l_law_297 : decode code 297 = .ok (.iconst 2, 1) := by decide +kernel
theorem d_l_law_298 : decode code 298 = .ok (.iadd, 1) := by decide +kernel
theorem d_l_law_299 : decode code 299 = .ok (.iaload, 1) := by decide +kernel
theorem d_l_law_300 : decode code 300 = .ok (.aload_n 3, 1) := by decide +kernel
theorem d_l_law_301 : decode code 301 = .ok (.invokestatic 74, 3) := by decide +kernel
theorem d_l_law_304 : decode code 304 = .ok (.istore 5, 2) := by decide +kernel
theorem d_l_law_306 : decode code 306 = .ok (.aload_n 2, 1) := by decide +kernel
theorem d_l_law_307 : decode code 307 = .ok (.aload_n 0, 1) := by decide +kernel
theorem d_l_law_308 : decode code 308 = .ok (.iload 4, 2) := by decide +kernel
theorem d_l_law_310 : decode code 310 = .ok (.iconst 1, 1) := by decide +kernel
theorem d_l_law_311 : decode code 311 = .ok (.iadd, 1) := by decide +kernel
theorem d_l_law_312 : decode code 312 = .ok (.iaload, 1) := by decide +kernel
theorem d_l_law_313 : decode code 313 = .ok (.aload_n 0, 1) := by decide +kernel
theorem d_l_law_314 : decode code 314 = .ok (.iload 4, 2) := by decide +kernel
theorem d_l_law_316 : decode code 316 = .ok (.iconst 2, 1) := by decide +kernel
theorem d_l_law_317 : decode code 317 = .ok (.iadd, 1) := by decide +kernel
theorem d_l_law_318 : decode code 318 = .ok (.iaload, 1) := by decide +kernel
theorem d_l_law_319 : decode code 319 = .ok (.invokevirtual 76, 3) := by decide +kernel
theorem d_l_law_322 : decode code 322 = .ok (.istore 6, 2) := by decide +kernel
theorem d_l_law_324 : decode code 324 = .ok (.aload_n 2, 1) := by decide +kernel
theorem d_l_law_325 : decode code 325 = .ok (.invokevirtual 62, 3) := by decide +kernel
theorem d_l_law_328 : decode code 328 = .ok (.iload 5, 2) := by decide +kernel
theorem d_l_law_330 : decode code 330 = .ok (.if_icmp .eq 5, 3) := by decide +kernel
theorem d_l_law_333 : decode code 333 = .ok (.iconst 0, 1) := by decide +kernel
theorem d_l_law_334 : decode code 334 = .ok (.ireturn, 1) := by decide +kernel
theorem d_l_law_335 : decode code 335 = .ok (.iload 5, 2) := by decide +kernel
theorem d_l_law_337 : decode code 337 = .ok (.ifCond .ne 22, 3) := by decide +kernel
theorem d_l_law_340 : decode code 340 = .ok (.aload_n 3, 1) := by decide +kernel
theorem d_l_law_341 : decode code 341 = .ok (.iconst 0, 1) := by decide +kernel
theorem d_l_law_342 : decode code 342 = .ok (.laload, 1) := by decide +kernel
theorem d_l_law_343 : decode code 343 = .ok (.iload 6, 2) := by decide +kernel
theorem d_l_law_345 : decode code 345 = .ok (.ifCond .eq 7, 3) := by decide +kernel
theorem d_l_law_348 : decode code 348 = .ok (.lconst 1, 1) := by decide +kernel
theorem d_l_law_349 : decode code 349 = .ok (.goto 4, 3) := by decide +kernel
theorem d_l_law_352 : decode code 352 = .ok (.lconst 0, 1) := by decide +kernel
theorem d_l_law_353 : decode code 353 = .ok (.lcmp, 1) := by decide +kernel
theorem d_l_law_354 : decode code 354 = .ok (.ifCond .eq 5, 3) := by decide +kernel
theorem d_l_law_357 : decode code 357 = .ok (.iconst 0, 1) := by decide +kernel
theorem d_l_law_358 : decode code 358 = .ok (.ireturn, 1) := by decide +kernel
theorem d_l_law_359 : decode code 359 = .ok (.goto 471, 3) := by decide +kernel
theorem d_l_law_362 : decode code 362 = .ok (.aload_n 1, 1) := by decide +kernel
theorem d_l_law_363 : decode code 363 = .ok (.aload_n 0, 1) := by decide +kernel
theorem d_l_law_364 : decode code 364 = .ok (.iload 4, 2) := by decide +kernel
theorem d_l_law_366 : decode code 366 = .ok (.iconst 1, 1) := by decide +kernel
theorem d_l_law_367 : decode code 367 = .ok (.iadd, 1) := by decide +kernel
theorem d_l_law_368 : decode code 368 = .ok (.iaload, 1) := by decide +kernel
theorem d_l_law_369 : decode code 369 = .ok (.aload_n 0, 1) := by decide +kernel
theorem d_l_law_370 : decode code 370 = .ok (.iload 4, 2) := by decide +kernel
theorem d_l_law_372 : decode code 372 = .ok (.iconst 2, 1) := by decide +kernel
theorem d_l_law_373 : decode code 373 = .ok (.iadd, 1) := by decide +kernel
theorem d_l_law_374 : decode code 374 = .ok (.iaload, 1) := by decide +kernel
theorem d_l_law_375 : decode code 375 = .ok (.aload_n 3, 1) := by decide +kernel
theorem d_l_law_376 : decode code 376 = .ok (.invokestatic 77, 3) := by decide +kernel
theorem d_l_law_379 : decode code 379 = .ok (.istore 5, 2) := by decide +kernel
theorem d_l_law_381 : decode code 381 = .ok (.aload_n 2, 1) := by decide +kernel
theorem d_l_law_382 : decode code 382 = .ok (.aload_n 0, 1) := by decide +kernel
theorem d_l_law_383 : decode code 383 = .ok (.iload 4, 2) := by decide +kernel
theorem d_l_law_385 : decode code 385 = .ok (.iconst 1, 1) := by decide +kernel
theorem d_l_law_386 : decode code 386 = .ok (.iadd, 1) := by decide +kernel
theorem d_l_law_387 : decode code 387 = .ok (.iaload, 1) := by decide +kernel
theorem d_l_law_388 : decode code 388 = .ok (.aload_n 0, 1) := by decide +kernel
theorem d_l_law_389 : decode code 389 = .ok (.iload 4, 2) := by decide +kernel
theorem d_l_law_391 : decode code 391 = .ok (.iconst 2, 1) := by decide +kernel
theorem d_l_law_392 : decode code 392 = .ok (.iadd, 1) := by decide +kernel
theorem d_l_law_393 : decode code 393 = .ok (.iaload, 1) := by decide +kernel
theorem d_l_law_394 : decode code 394 = .ok (.invokevirtual 79, 3) := by decide +kernel
theorem d_l_law_397 : decode code 397 = .ok (.istore 6, 2) := by decide +kernel
theorem d_l_law_399 : decode code 399 = .ok (.aload_n 2, 1) := by decide +kernel
theorem d_l_law_400 : decode code 400 = .ok (.invokevirtual 62, 3) := by decide +kernel
theorem d_l_law_403 : decode code 403 = .ok (.iload 5, 2) := by decide +kernel
theorem d_l_law_405 : decode code 405 = .ok (.if_icmp .eq 5, 3) := by decide +kernel
theorem d_l_law_408 : decode code 408 = .ok (.iconst 0, 1) := by decide +kernel
theorem d_l_law_409 : decode code 409 = .ok (.ireturn, 1) := by decide +kernel
theorem d_l_law_410 : decode code 410 = .ok (.iload 5, 2) := by decide +kernel
theorem d_l_law_412 : decode code 412 = .ok (.ifCond .ne 22, 3) := by decide +kernel
theorem d_l_law_415 : decode code 415 = .ok (.aload_n 3, 1) := by decide +kernel
theorem d_l_law_416 : decode code 416 = .ok (.iconst 0, 1) := by decide +kernel
theorem d_l_law_417 : decode code 417 = .ok (.laload, 1) := by decide +kernel
theorem d_l_law_418 : decode code 418 = .ok (.iload 6, 2) := by decide +kernel
theorem d_l_law_420 : decode code 420 = .ok (.ifCond .eq 7, 3) := by decide +kernel
theorem d_l_law_423 : decode code 423 = .ok (.lconst 1, 1) := by decide +kernel
theorem d_l_law_424 : decode code 424 = .ok (.goto 4, 3) := by decide +kernel
theorem d_l_law_427 : decode code 427 = .ok (.lconst 0, 1) := by decide +kernel
theorem d_l_law_428 : decode code 428 = .ok (.lcmp, 1) := by decide +kernel
theorem d_l_law_429 : decode code 429 = .ok (.ifCond .eq 5, 3) := by decide +kernel
theorem d_l_law_432 : decode code 432 = .ok (.iconst 0, 1) := by decide +kernel
theorem d_l_law_433 : decode code 433 = .ok (.ireturn, 1) := by decide +kernel
theorem d_l_law_434 : decode code 434 = .ok (.goto 396, 3) := by decide +kernel
theorem d_l_law_437 : decode code 437 = .ok (.aload_n 1, 1) := by decide +kernel
theorem d_l_law_438 : decode code 438 = .ok (.aload_n 0, 1) := by decide +kernel
theorem d_l_law_439 : decode code 439 = .ok (.iload 4, 2) := by decide +kernel
theorem d_l_law_441 : decode code 441 = .ok (.iconst 1, 1) := by decide +kernel
theorem d_l_law_442 : decode code 442 = .ok (.iadd, 1) := by decide +kernel
theorem d_l_law_443 : decode code 443 = .ok (.iaload, 1) := by decide +kernel
theorem d_l_law_444 : decode code 444 = .ok (.aload_n 0, 1) := by decide +kernel
theorem d_l_law_445 : decode code 445 = .ok (.iload 4, 2) := by decide +kernel
theorem d_l_law_447 : decode code 447 = .ok (.iconst 2, 1) := by decide +kernel
theorem d_l_law_448 : decode code 448 = .ok (.iadd, 1) := by decide +kernel
theorem d_l_law_449 : decode code 449 = .ok (.iaload, 1) := by decide +kernel
theorem d_l_law_450 : decode code 450 = .ok (.aload_n 3, 1) := by decide +kernel
theorem d_l_law_451 : decode code 451 = .ok (.invokestatic 80, 3) := by decide +kernel
theorem d_l_law_454 : decode code 454 = .ok (.istore 5, 2) := by decide +kernel
theorem d_l_law_456 : decode code 456 = .ok (.aload_n 2, 1) := by decide +kernel
theorem d_l_law_457 : decode code 457 = .ok (.aload_n 0, 1) := by decide +kernel
theorem d_l_law_458 : decode code 458 = .ok (.iload 4, 2) := by decide +kernel
theorem d_l_law_460 : decode code 460 = .ok (.iconst 1, 1) := by decide +kernel
theorem d_l_law_461 : decode code 461 = .ok (.iadd, 1) := by decide +kernel
theorem d_l_law_462 : decode code 462 = .ok (.iaload, 1) := by decide +kernel
theorem d_l_law_463 : decode code 463 = .ok (.aload_n 0, 1) := by decide +kernel
theorem d_l_law_464 : decode code 464 = .ok (.iload 4, 2) := by decide +kernel
theorem d_l_law_466 : decode code 466 = .ok (.iconst 2, 1) := by decide +kernel
theorem d_l_law_467 : decode code 467 = .ok (.iadd, 1) := by decide +kernel
theorem d_l_law_468 : decode code 468 = .ok (.iaload, 1) := by decide +kernel
theorem d_l_law_469 : decode code 469 = .ok (.invokevirtual 82, 3) := by decide +kernel
theorem d_l_law_472 : decode code 472 = .ok (.istore 6, 2) := by decide +kernel
theorem d_l_law_474 : decode code 474 = .ok (.aload_n 2, 1) := by decide +kernel
theorem d_l_law_475 : decode code 475 = .ok (.invokevirtual 62, 3) := by decide +kernel
theorem d_l_law_478 : decode code 478 = .ok (.iload 5, 2) := by decide +kernel
theorem d_l_law_480 : decode code 480 = .ok (.if_icmp .eq 5, 3) := by decide +kernel
theorem d_l_law_483 : decode code 483 = .ok (.iconst 0, 1) := by decide +kernel
theorem d_l_law_484 : decode code 484 = .ok (.ireturn, 1) := by decide +kernel
theorem d_l_law_485 : decode code 485 = .ok (.iload 5, 2) := by decide +kernel
theorem d_l_law_487 : decode code 487 = .ok (.ifCond .ne 22, 3) := by decide +kernel
theorem d_l_law_490 : decode code 490 = .ok (.aload_n 3, 1) := by decide +kernel
theorem d_l_law_491 : decode code 491 = .ok (.iconst 0, 1) := by decide +kernel
theorem d_l_law_492 : decode code 492 = .ok (.laload, 1) := by decide +kernel
theorem d_l_law_493 : decode code 493 = .ok (.iload 6, 2) := by decide +kernel
theorem d_l_law_495 : decode code 495 = .ok (.ifCond .eq 7, 3) := by decide +kernel
theorem d_l_law_498 : decode code 498 = .ok (.lconst 1, 1) := by decide +kernel
theorem d_l_law_499 : decode code 499 = .ok (.goto 4, 3) := by decide +kernel
theorem d_l_law_502 : decode code 502 = .ok (.lconst 0, 1) := by decide +kernel
theorem d_l_law_503 : decode code 503 = .ok (.lcmp, 1) := by decide +kernel
theorem d_l_law_504 : decode code 504 = .ok (.ifCond .eq 5, 3) := by decide +kernel
theorem d_l_law_507 : decode code 507 = .ok (.iconst 0, 1) := by decide +kernel
theorem d_l_law_508 : decode code 508 = .ok (.ireturn, 1) := by decide +kernel
theorem d_l_law_509 : decode code 509 = .ok (.goto 321, 3) := by decide +kernel
theorem d_l_law_512 : decode code 512 = .ok (.aload_n 1, 1) := by decide +kernel
theorem d_l_law_513 : decode code 513 = .ok (.aload_n 0, 1) := by decide +kernel
theorem d_l_law_514 : decode code 514 = .ok (.iload 4, 2) := by decide +kernel
theorem d_l_law_516 : decode code 516 = .ok (.iconst 1, 1) := by decide +kernel
theorem d_l_law_517 : decode code 517 = .ok (.iadd, 1) := by decide +kernel
theorem d_l_law_518 : decode code 518 = .ok (.iaload, 1) := by decide +kernel
theorem d_l_law_519 : decode code 519 = .ok (.aload_n 0, 1) := by decide +kernel
theorem d_l_law_520 : decode code 520 = .ok (.iload 4, 2) := by decide +kernel
theorem d_l_law_522 : decode code 522 = .ok (.iconst 2, 1) := by decide +kernel
theorem d_l_law_523 : decode code 523 = .ok (.iadd, 1) := by decide +kernel
theorem d_l_law_524 : decode code 524 = .ok (.iaload, 1) := by decide +kernel
theorem d_l_law_525 : decode code 525 = .ok (.aload_n 3, 1) := by decide +kernel
theorem d_l_law_526 : decode code 526 = .ok (.invokestatic 83, 3) := by decide +kernel
theorem d_l_law_529 : decode code 529 = .ok (.istore 5, 2) := by decide +kernel
theorem d_l_law_531 : decode code 531 = .ok (.aload_n 2, 1) := by decide +kernel
theorem d_l_law_532 : decode code 532 = .ok (.aload_n 0, 1) := by decide +kernel
theorem d_l_law_533 : decode code 533 = .ok (.iload 4, 2) := by decide +kernel
theorem d_l_law_535 : decode code 535 = .ok (.iconst 1, 1) := by decide +kernel
theorem d_l_law_536 : decode code 536 = .ok (.iadd, 1) := by decide +kernel
theorem d_l_law_537 : decode code 537 = .ok (.iaload, 1) := by decide +kernel
theorem d_l_law_538 : decode code 538 = .ok (.aload_n 0, 1) := by decide +kernel
theorem d_l_law_539 : decode code 539 = .ok (.iload 4, 2) := by decide +kernel
theorem d_l_law_541 : decode code 541 = .ok (.iconst 2, 1) := by decide +kernel
theorem d_l_law_542 : decode code 542 = .ok (.iadd, 1) := by decide +kernel
theorem d_l_law_543 : decode code 543 = .ok (.iaload, 1) := by decide +kernel
theorem d_l_law_544 : decode code 544 = .ok (.invokevirtual 85, 3) := by decide +kernel
theorem d_l_law_547 : decode code 547 = .ok (.istore 6, 2) := by decide +kernel
theorem d_l_law_549 : decode code 549 = .ok (.aload_n 2, 1) := by decide +kernel
theorem d_l_law_550 : decode code 550 = .ok (.invokevirtual 62, 3) := by decide +kernel
theorem d_l_law_553 : decode code 553 = .ok (.iload 5, 2) := by decide +kernel
theorem d_l_law_555 : decode code 555 = .ok (.if_icmp .eq 5, 3) := by decide +kernel
theorem d_l_law_558 : decode code 558 = .ok (.iconst 0, 1) := by decide +kernel
theorem d_l_law_559 : decode code 559 = .ok (.ireturn, 1) := by decide +kernel
theorem d_l_law_560 : decode code 560 = .ok (.iload 5, 2) := by decide +kernel
theorem d_l_law_562 : decode code 562 = .ok (.ifCond .ne 15, 3) := by decide +kernel
theorem d_l_law_565 : decode code 565 = .ok (.aload_n 3, 1) := by decide +kernel
theorem d_l_law_566 : decode code 566 = .ok (.iconst 0, 1) := by decide +kernel
theorem d_l_law_567 : decode code 567 = .ok (.laload, 1) := by decide +kernel
theorem d_l_law_568 : decode code 568 = .ok (.iload 6, 2) := by decide +kernel
theorem d_l_law_570 : decode code 570 = .ok (.i2l, 1) := by decide +kernel
theorem d_l_law_571 : decode code 571 = .ok (.lcmp, 1) := by decide +kernel
theorem d_l_law_572 : decode code 572 = .ok (.ifCond .eq 5, 3) := by decide +kernel
theorem d_l_law_575 : decode code 575 = .ok (.iconst 0, 1) := by decide +kernel
theorem d_l_law_576 : decode code 576 = .ok (.ireturn, 1) := by decide +kernel
theorem d_l_law_577 : decode code 577 = .ok (.goto 253, 3) := by decide +kernel
theorem d_l_law_580 : decode code 580 = .ok (.aload_n 1, 1) := by decide +kernel
theorem d_l_law_581 : decode code 581 = .ok (.aload_n 0, 1) := by decide +kernel
theorem d_l_law_582 : decode code 582 = .ok (.iload 4, 2) := by decide +kernel
theorem d_l_law_584 : decode code 584 = .ok (.iconst 1, 1) := by decide +kernel
theorem d_l_law_585 : decode code 585 = .ok (.iadd, 1) := by decide +kernel
theorem d_l_law_586 : decode code 586 = .ok (.iaload, 1) := by decide +kernel
theorem d_l_law_587 : decode code 587 = .ok (.aload_n 0, 1) := by decide +kernel
theorem d_l_law_588 : decode code 588 = .ok (.iload 4, 2) := by decide +kernel
theorem d_l_law_590 : decode code 590 = .ok (.iconst 2, 1) := by decide +kernel
theorem d_l_law_591 : decode code 591 = .ok (.iadd, 1) := by decide +kernel
theorem d_l_law_592 : decode code 592 = .ok (.iaload, 1) := by decide +kernel
theorem d_l_law_593 : decode code 593 = .ok (.aload_n 3, 1) := by decide +kernel
theorem d_l_law_594 : decode code 594 = .ok (.invokestatic 86, 3) := by decide +kernel
theorem d_l_law_597 : decode code 597 = .ok (.istore 5, 2) := by decide +kernel
theorem d_l_law_599 : decode code 599 = .ok (.aload_n 2, 1) := by decide +kernel
theorem d_l_law_600 : decode code 600 = .ok (.aload_n 0, 1) := by decide +kernel
theorem d_l_law_601 : decode code 601 = .ok (.iload 4, 2) := by decide +kernel
theorem d_l_law_603 : decode code 603 = .ok (.iconst 1, 1) := by decide +kernel
theorem d_l_law_604 : decode code 604 = .ok (.iadd, 1) := by decide +kernel
theorem d_l_law_605 : decode code 605 = .ok (.iaload, 1) := by decide +kernel
theorem d_l_law_606 : decode code 606 = .ok (.aload_n 0, 1) := by decide +kernel
theorem d_l_law_607 : decode code 607 = .ok (.iload 4, 2) := by decide +kernel
theorem d_l_law_609 : decode code 609 = .ok (.iconst 2, 1) := by decide +kernel
theorem d_l_law_610 : decode code 610 = .ok (.iadd, 1) := by decide +kernel
theorem d_l_law_611 : decode code 611 = .ok (.iaload, 1) := by decide +kernel
theorem d_l_law_612 : decode code 612 = .ok (.invokevirtual 88, 3) := by decide +kernel
theorem d_l_law_615 : decode code 615 = .ok (.istore 6, 2) := by decide +kernel
theorem d_l_law_617 : decode code 617 = .ok (.aload_n 2, 1) := by decide +kernel
theorem d_l_law_618 : decode code 618 = .ok (.invokevirtual 62, 3) := by decide +kernel
theorem d_l_law_621 : decode code 621 = .ok (.iload 5, 2) := by decide +kernel
theorem d_l_law_623 : decode code 623 = .ok (.if_icmp .eq 5, 3) := by decide +kernel
theorem d_l_law_626 : decode code 626 = .ok (.iconst 0, 1) := by decide +kernel
theorem d_l_law_627 : decode code 627 = .ok (.ireturn, 1) := by decide +kernel
theorem d_l_law_628 : decode code 628 = .ok (.iload 5, 2) := by decide +kernel
theorem d_l_law_630 : decode code 630 = .ok (.ifCond .ne 22, 3) := by decide +kernel
theorem d_l_law_633 : decode code 633 = .ok (.aload_n 3, 1) := by decide +kernel
theorem d_l_law_634 : decode code 634 = .ok (.iconst 0, 1) := by decide +kernel
theorem d_l_law_635 : decode code 635 = .ok (.laload, 1) := by decide +kernel
theorem d_l_law_636 : decode code 636 = .ok (.iload 6, 2) := by decide +kernel
theorem d_l_law_638 : decode code 638 = .ok (.ifCond .eq 7, 3) := by decide +kernel
theorem d_l_law_641 : decode code 641 = .ok (.lconst 1, 1) := by decide +kernel
theorem d_l_law_642 : decode code 642 = .ok (.goto 4, 3) := by decide +kernel
theorem d_l_law_645 : decode code 645 = .ok (.lconst 0, 1) := by decide +kernel
theorem d_l_law_646 : decode code 646 = .ok (.lcmp, 1) := by decide +kernel
theorem d_l_law_647 : decode code 647 = .ok (.ifCond .eq 5, 3) := by decide +kernel
theorem d_l_law_650 : decode code 650 = .ok (.iconst 0, 1) := by decide +kernel
theorem d_l_law_651 : decode code 651 = .ok (.ireturn, 1) := by decide +kernel
theorem d_l_law_652 : decode code 652 = .ok (.goto 178, 3) := by decide +kernel
theorem d_l_law_655 : decode code 655 = .ok (.aload_n 1, 1) := by decide +kernel
theorem d_l_law_656 : decode code 656 = .ok (.aload_n 0, 1) := by decide +kernel
theorem d_l_law_657 : decode code 657 = .ok (.iload 4, 2) := by decide +kernel
theorem d_l_law_659 : decode code 659 = .ok (.iconst 1, 1) := by decide +kernel
theorem d_l_law_660 : decode code 660 = .ok (.iadd, 1) := by decide +kernel
theorem d_l_law_661 : decode code 661 = .ok (.iaload, 1) := by decide +kernel
theorem d_l_law_662 : decode code 662 = .ok (.aload_n 3, 1) := by decide +kernel
theorem d_l_law_663 : decode code 663 = .ok (.invokestatic 89, 3) := by decide +kernel
theorem d_l_law_666 : decode code 666 = .ok (.istore 5, 2) := by decide +kernel
theorem d_l_law_668 : decode code 668 = .ok (.aload_n 2, 1) := by decide +kernel
theorem d_l_law_669 : decode code 669 = .ok (.aload_n 0, 1) := by decide +kernel
theorem d_l_law_670 : decode code 670 = .ok (.iload 4, 2) := by decide +kernel
theorem d_l_law_672 : decode code 672 = .ok (.iconst 1, 1) := by decide +kernel
theorem d_l_law_673 : decode code 673 = .ok (.iadd, 1) := by decide +kernel
theorem d_l_law_674 : decode code 674 = .ok (.iaload, 1) := by decide +kernel
theorem d_l_law_675 : decode code 675 = .ok (.invokevirtual 92, 3) := by decide +kernel
theorem d_l_law_678 : decode code 678 = .ok (.istore 6, 2) := by decide +kernel
theorem d_l_law_680 : decode code 680 = .ok (.aload_n 2, 1) := by decide +kernel
theorem d_l_law_681 : decode code 681 = .ok (.invokevirtual 62, 3) := by decide +kernel
theorem d_l_law_684 : decode code 684 = .ok (.iload 5, 2) := by decide +kernel
theorem d_l_law_686 : decode code 686 = .ok (.if_icmp .eq 5, 3) := by decide +kernel
theorem d_l_law_689 : decode code 689 = .ok (.iconst 0, 1) := by decide +kernel
theorem d_l_law_690 : decode code 690 = .ok (.ireturn, 1) := by decide +kernel
theorem d_l_law_691 : decode code 691 = .ok (.iload 5, 2) := by decide +kernel
theorem d_l_law_693 : decode code 693 = .ok (.ifCond .ne 15, 3) := by decide +kernel
theorem d_l_law_696 : decode code 696 = .ok (.aload_n 3, 1) := by decide +kernel
theorem d_l_law_697 : decode code 697 = .ok (.iconst 0, 1) := by decide +kernel
theorem d_l_law_698 : decode code 698 = .ok (.laload, 1) := by decide +kernel
theorem d_l_law_699 : decode code 699 = .ok (.iload 6, 2) := by decide +kernel
theorem d_l_law_701 : decode code 701 = .ok (.i2l, 1) := by decide +kernel
theorem d_l_law_702 : decode code 702 = .ok (.lcmp, 1) := by decide +kernel
theorem d_l_law_703 : decode code 703 = .ok (.ifCond .eq 5, 3) := by decide +kernel
theorem d_l_law_706 : decode code 706 = .ok (.iconst 0, 1) := by decide +kernel
theorem d_l_law_707 : decode code 707 = .ok (.ireturn, 1) := by decide +kernel
theorem d_l_law_708 : decode code 708 = .ok (.goto 122, 3) := by decide +kernel
theorem d_l_law_711 : decode code 711 = .ok (.aload_n 1, 1) := by decide +kernel
theorem d_l_law_712 : decode code 712 = .ok (.aload_n 0, 1) := by decide +kernel
theorem d_l_law_713 : decode code 713 = .ok (.iload 4, 2) := by decide +kernel
theorem d_l_law_715 : decode code 715 = .ok (.iconst 1, 1) := by decide +kernel
theorem d_l_law_716 : decode code 716 = .ok (.iadd, 1) := by decide +kernel
theorem d_l_law_717 : decode code 717 = .ok (.iaload, 1) := by decide +kernel
theorem d_l_law_718 : decode code 718 = .ok (.aload_n 3, 1) := by decide +kernel
theorem d_l_law_719 : decode code 719 = .ok (.invokestatic 93, 3) := by decide +kernel
theorem d_l_law_722 : decode code 722 = .ok (.istore 5, 2) := by decide +kernel
theorem d_l_law_724 : decode code 724 = .ok (.aload_n 2, 1) := by decide +kernel
theorem d_l_law_725 : decode code 725 = .ok (.aload_n 0, 1) := by decide +kernel
theorem d_l_law_726 : decode code 726 = .ok (.iload 4, 2) := by decide +kernel
theorem d_l_law_728 : decode code 728 = .ok (.iconst 1, 1) := by decide +kernel
theorem d_l_law_729 : decode code 729 = .ok (.iadd, 1) := by decide +kernel
theorem d_l_law_730 : decode code 730 = .ok (.iaload, 1) := by decide +kernel
theorem d_l_law_731 : decode code 731 = .ok (.invokevirtual 95, 3) := by decide +kernel
theorem d_l_law_734 : decode code 734 = .ok (.istore 6, 2) := by decide +kernel
theorem d_l_law_736 : decode code 736 = .ok (.aload_n 2, 1) := by decide +kernel
theorem d_l_law_737 : decode code 737 = .ok (.invokevirtual 62, 3) := by decide +kernel
theorem d_l_law_740 : decode code 740 = .ok (.iload 5, 2) := by decide +kernel
theorem d_l_law_742 : decode code 742 = .ok (.if_icmp .eq 5, 3) := by decide +kernel
theorem d_l_law_745 : decode code 745 = .ok (.iconst 0, 1) := by decide +kernel
theorem d_l_law_746 : decode code 746 = .ok (.ireturn, 1) := by decide +kernel
theorem d_l_law_747 : decode code 747 = .ok (.iload 5, 2) := by decide +kernel
theorem d_l_law_749 : decode code 749 = .ok (.ifCond .ne 22, 3) := by decide +kernel
theorem d_l_law_752 : decode code 752 = .ok (.aload_n 3, 1) := by decide +kernel
theorem d_l_law_753 : decode code 753 = .ok (.iconst 0, 1) := by decide +kernel
theorem d_l_law_754 : decode code 754 = .ok (.laload, 1) := by decide +kernel
theorem d_l_law_755 : decode code 755 = .ok (.iload 6, 2) := by decide +kernel
theorem d_l_law_757 : decode code 757 = .ok (.ifCond .eq 7, 3) := by decide +kernel
theorem d_l_law_760 : decode code 760 = .ok (.lconst 1, 1) := by decide +kernel
theorem d_l_law_761 : decode code 761 = .ok (.goto 4, 3) := by decide +kernel
theorem d_l_law_764 : decode code 764 = .ok (.lconst 0, 1) := by decide +kernel
theorem d_l_law_765 : decode code 765 = .ok (.lcmp, 1) := by decide +kernel
theorem d_l_law_766 : decode code 766 = .ok (.ifCond .eq 5, 3) := by decide +kernel
theorem d_l_law_769 : decode code 769 = .ok (.iconst 0, 1) := by decide +kernel
theorem d_l_law_770 : decode code 770 = .ok (.ireturn, 1) := by decide +kernel
theorem d_l_law_771 : decode code 771 = .ok (.goto 59, 3) := by decide +kernel
theorem d_l_law_774 : decode code 774 = .ok (.aload_n 1, 1) := by decide +kernel
theorem d_l_law_775 : decode code 775 = .ok (.aload_n 0, 1) := by decide +kernel
theorem d_l_law_776 : decode code 776 = .ok (.iload 4, 2) := by decide +kernel
theorem d_l_law_778 : decode code 778 = .ok (.iconst 1, 1) := by decide +kernel
theorem d_l_law_779 : decode code 779 = .ok (.iadd, 1) := by decide +kernel
theorem d_l_law_780 : decode code 780 = .ok (.iaload, 1) := by decide +kernel
theorem d_l_law_781 : decode code 781 = .ok (.aload_n 3, 1) := by decide +kernel
theorem d_l_law_782 : decode code 782 = .ok (.invokestatic 96, 3) := by decide +kernel
theorem d_l_law_785 : decode code 785 = .ok (.istore 5, 2) := by decide +kernel
theorem d_l_law_787 : decode code 787 = .ok (.aload_n 2, 1) := by decide +kernel
theorem d_l_law_788 : decode code 788 = .ok (.aload_n 0, 1) := by decide +kernel
theorem d_l_law_789 : decode code 789 = .ok (.iload 4, 2) := by decide +kernel
theorem d_l_law_791 : decode code 791 = .ok (.iconst 1, 1) := by decide +kernel
theorem d_l_law_792 : decode code 792 = .ok (.iadd, 1) := by decide +kernel
theorem d_l_law_793 : decode code 793 = .ok (.iaload, 1) := by decide +kernel
theorem d_l_law_794 : decode code 794 = .ok (.invokevirtual 98, 3) := by decide +kernel
theorem d_l_law_797 : decode code 797 = .ok (.istore 6, 2) := by decide +kernel
theorem d_l_law_799 : decode code 799 = .ok (.aload_n 2, 1) := by decide +kernel
theorem d_l_law_800 : decode code 800 = .ok (.invokevirtual 62, 3) := by decide +kernel
theorem d_l_law_803 : decode code 803 = .ok (.iload 5, 2) := by decide +kernel
theorem d_l_law_805 : decode code 805 = .ok (.if_icmp .eq 5, 3) := by decide +kernel
theorem d_l_law_808 : decode code 808 = .ok (.iconst 0, 1) := by decide +kernel
theorem d_l_law_809 : decode code 809 = .ok (.ireturn, 1) := by decide +kernel
theorem d_l_law_810 : decode code 810 = .ok (.iload 5, 2) := by decide +kernel
theorem d_l_law_812 : decode code 812 = .ok (.ifCond .ne 15, 3) := by decide +kernel
theorem d_l_law_815 : decode code 815 = .ok (.aload_n 3, 1) := by decide +kernel
theorem d_l_law_816 : decode code 816 = .ok (.iconst 0, 1) := by decide +kernel
theorem d_l_law_817 : decode code 817 = .ok (.laload, 1) := by decide +kernel
theorem d_l_law_818 : decode code 818 = .ok (.iload 6, 2) := by decide +kernel
theorem d_l_law_820 : decode code 820 = .ok (.i2l, 1) := by decide +kernel
theorem d_l_law_821 : decode code 821 = .ok (.lcmp, 1) := by decide +kernel
theorem d_l_law_822 : decode code 822 = .ok (.ifCond .eq 5, 3) := by decide +kernel
theorem d_l_law_825 : decode code 825 = .ok (.iconst 0, 1) := by decide +kernel
theorem d_l_law_826 : decode code 826 = .ok (.ireturn, 1) := by decide +kernel
theorem d_l_law_827 : decode code 827 = .ok (.goto 3, 3) := by decide +kernel
theorem d_l_law_830 : decode code 830 = .ok (.iinc 4 4, 3) := by decide +kernel
theorem d_l_law_833 : decode code 833 = .ok (.goto (-810), 3) := by decide +kernel
theorem d_l_law_836 : decode code 836 = .ok (.iconst 1, 1) := by decide +kernel
theorem d_l_law_837 : decode code 837 = .ok (.ireturn, 1) := by decide +kernel
