theorem d_VF_init_0 : decode b_VF_init 0 = .ok (.aload_n 0, 1) := by decide +kernel
theorem d_VF_init_1 : decode b_VF_init 1 = .ok (.invokespecial 1, 3) := by decide +kernel
theorem d_VF_init_4 : decode b_VF_init 4 = .ok (.aload_n 0, 1) := by decide +kernel
theorem d_VF_init_5 : decode b_VF_init 5 = .ok (.iload_n 1, 1) := by decide +kernel
theorem d_VF_init_6 : decode b_VF_init 6 = .ok (.iconst 4, 1) := by decide +kernel
theorem d_VF_init_7 : decode b_VF_init 7 = .ok (.bipush 7, 2) := by decide +kernel
theorem d_VF_init_9 : decode b_VF_init 9 = .ok (.invokestatic 9, 3) := by decide +kernel
theorem d_VF_init_12 : decode b_VF_init 12 = .ok (.putfield 13, 3) := by decide +kernel
theorem d_VF_init_15 : decode b_VF_init 15 = .ok (.aload_n 0, 1) := by decide +kernel
theorem d_VF_init_16 : decode b_VF_init 16 = .ok (.getfield 13, 3) := by decide +kernel
theorem d_VF_init_19 : decode b_VF_init 19 = .ok (.iconst 1, 1) := by decide +kernel
theorem d_VF_init_20 : decode b_VF_init 20 = .ok (.isub, 1) := by decide +kernel
theorem d_VF_init_21 : decode b_VF_init 21 = .ok (.iconst 3, 1) := by decide +kernel
theorem d_VF_init_22 : decode b_VF_init 22 = .ok (.idiv, 1) := by decide +kernel
theorem d_VF_init_23 : decode b_VF_init 23 = .ok (.istore 4, 2) := by decide +kernel
theorem d_VF_init_25 : decode b_VF_init 25 = .ok (.aload_n 0, 1) := by decide +kernel
theorem d_VF_init_26 : decode b_VF_init 26 = .ok (.iload_n 2, 1) := by decide +kernel
theorem d_VF_init_27 : decode b_VF_init 27 = .ok (.iconst 0, 1) := by decide +kernel
theorem d_VF_init_28 : decode b_VF_init 28 = .ok (.iload 4, 2) := by decide +kernel
theorem d_VF_init_30 : decode b_VF_init 30 = .ok (.invokestatic 17, 3) := by decide +kernel
theorem d_VF_init_33 : decode b_VF_init 33 = .ok (.ifCond .eq 7, 3) := by decide +kernel
theorem d_VF_init_36 : decode b_VF_init 36 = .ok (.iload_n 2, 1) := by decide +kernel
theorem d_VF_init_37 : decode b_VF_init 37 = .ok (.goto 5, 3) := by decide +kernel
theorem d_VF_init_40 : decode b_VF_init 40 = .ok (.iload 4, 2) := by decide +kernel
theorem d_VF_init_42 : decode b_VF_init 42 = .ok (.putfield 21, 3) := by decide +kernel
theorem d_VF_init_45 : decode b_VF_init 45 = .ok (.aload_n 0, 1) := by decide +kernel
theorem d_VF_init_46 : decode b_VF_init 46 = .ok (.iload_n 3, 1) := by decide +kernel
theorem d_VF_init_47 : decode b_VF_init 47 = .ok (.iconst 1, 1) := by decide +kernel
theorem d_VF_init_48 : decode b_VF_init 48 = .ok (.sipush 200, 3) := by decide +kernel
theorem d_VF_init_51 : decode b_VF_init 51 = .ok (.invokestatic 9, 3) := by decide +kernel
theorem d_VF_init_54 : decode b_VF_init 54 = .ok (.putfield 24, 3) := by decide +kernel
theorem d_VF_init_57 : decode b_VF_init 57 = .ok (.aload_n 0, 1) := by decide +kernel
theorem d_VF_init_58 : decode b_VF_init 58 = .ok (.getfield 13, 3) := by decide +kernel
theorem d_VF_init_61 : decode b_VF_init 61 = .ok (.invokestatic 27, 3) := by decide +kernel
theorem d_VF_init_64 : decode b_VF_init 64 = .ok (.astore 5, 2) := by decide +kernel
theorem d_VF_init_66 : decode b_VF_init 66 = .ok (.aload_n 0, 1) := by decide +kernel
theorem d_VF_init_67 : decode b_VF_init 67 = .ok (.aload 5, 2) := by decide +kernel
theorem d_VF_init_69 : decode b_VF_init 69 = .ok (.putfield 31, 3) := by decide +kernel
theorem d_VF_init_72 : decode b_VF_init 72 = .ok (.aload_n 0, 1) := by decide +kernel
theorem d_VF_init_73 : decode b_VF_init 73 = .ok (.new 35, 3) := by decide +kernel
theorem d_VF_init_76 : decode b_VF_init 76 = .ok (.dup, 1) := by decide +kernel
theorem d_VF_init_77 : decode b_VF_init 77 = .ok (.aload 5, 2) := by decide +kernel
theorem d_VF_init_79 : decode b_VF_init 79 = .ok (.aload_n 0, 1) := by decide +kernel
theorem d_VF_init_80 : decode b_VF_init 80 = .ok (.getfield 21, 3) := by decide +kernel
theorem d_VF_init_83 : decode b_VF_init 83 = .ok (.invokespecial 37, 3) := by decide +kernel
theorem d_VF_init_86 : decode b_VF_init 86 = .ok (.putfield 40, 3) := by decide +kernel
theorem d_VF_init_89 : decode b_VF_init 89 = .ok (.aload_n 0, 1) := by decide +kernel
theorem d_VF_init_90 : decode b_VF_init 90 = .ok (.invokestatic 44, 3) := by decide +kernel
theorem d_VF_init_93 : decode b_VF_init 93 = .ok (.putfield 48, 3) := by decide +kernel
theorem d_VF_init_96 : decode b_VF_init 96 = .ok (.aload_n 0, 1) := by decide +kernel
theorem d_VF_init_97 : decode b_VF_init 97 = .ok (.new 52, 3) := by decide +kernel
theorem d_VF_init_100 : decode b_VF_init 100 = .ok (.dup, 1) := by decide +kernel
theorem d_VF_init_101 : decode b_VF_init 101 = .ok (.invokespecial 54, 3) := by decide +kernel
theorem d_VF_init_104 : decode b_VF_init 104 = .ok (.putfield 55, 3) := by decide +kernel
theorem d_VF_init_107 : decode b_VF_init 107 = .ok (.aload_n 0, 1) := by decide +kernel
theorem d_VF_init_108 : decode b_VF_init 108 = .ok (.iconst 4, 1) := by decide +kernel
theorem d_VF_init_109 : decode b_VF_init 109 = .ok (.newarray .int, 2) := by decide +kernel
theorem d_VF_init_111 : decode b_VF_init 111 = .ok (.putfield 59, 3) := by decide +kernel
theorem d_VF_init_114 : decode b_VF_init 114 = .ok (.aload_n 0, 1) := by decide +kernel
theorem d_VF_init_115 : decode b_VF_init 115 = .ok (.aload_n 0, 1) := by decide +kernel
theorem d_VF_init_116 : decode b_VF_init 116 = .ok (.getfield 13, 3) := by decide +kernel
theorem d_VF_init_119 : decode b_VF_init 119 = .ok (.newarray .int, 2) := by decide +kernel
theorem d_VF_init_121 : decode b_VF_init 121 = .ok (.putfield 63, 3) := by decide +kernel
theorem d_VF_init_124 : decode b_VF_init 124 = .ok (.aload_n 0, 1) := by decide +kernel
theorem d_VF_init_125 : decode b_VF_init 125 = .ok (.aload_n 0, 1) := by decide +kernel
theorem d_VF_init_126 : decode b_VF_init 126 = .ok (.getfield 13, 3) := by decide +kernel
theorem d_VF_init_129 : decode b_VF_init 129 = .ok (.newarray .int, 2) := by decide +kernel
theorem d_VF_init_131 : decode b_VF_init 131 = .ok (.putfield 66, 3) := by decide +kernel
theorem d_VF_init_134 : decode b_VF_init 134 = .ok (.aload_n 0, 1) := by decide +kernel
theorem d_VF_init_135 : decode b_VF_init 135 = .ok (.aload_n 0, 1) := by decide +kernel
theorem d_VF_init_136 : decode b_VF_init 136 = .ok (.getfield 13, 3) := by decide +kernel
theorem d_VF_init_139 : decode b_VF_init 139 = .ok (.newarray .int, 2) := by decide +kernel
theorem d_VF_init_141 : decode b_VF_init 141 = .ok (.putfield 69, 3) := by decide +kernel
theorem d_VF_init_144 : decode b_VF_init 144 = .ok (.return_, 1) := by decide +kernel
theorem d_VF_clamp_0 : decode b_VF_clamp 0 = .ok (.iload_n 1, 1) := by decide +kernel
theorem d_VF_clamp_1 : decode b_VF_clamp 1 = .ok (.iload_n 2, 1) := by decide +kernel
theorem d_VF_clamp_2 : decode b_VF_clamp 2 = .ok (.iload_n 0, 1) := by decide +kernel
theorem d_VF_clamp_3 : decode b_VF_clamp 3 = .ok (.invokestatic 155, 3) := by decide +kernel
theorem d_VF_clamp_6 : decode b_VF_clamp 6 = .ok (.invokestatic 161, 3) := by decide +kernel
theorem d_VF_clamp_9 : decode b_VF_clamp 9 = .ok (.ireturn, 1) := by decide +kernel
theorem d_JM_min_0 : decode b_JM_min 0 = .ok (.iload_n 0, 1) := by decide +kernel
theorem d_JM_min_1 : decode b_JM_min 1 = .ok (.iload_n 1, 1) := by decide +kernel
theorem d_JM_min_2 : decode b_JM_min 2 = .ok (.if_icmp .gt 7, 3) := by decide +kernel
theorem d_JM_min_5 : decode b_JM_min 5 = .ok (.iload_n 0, 1) := by decide +kernel
theorem d_JM_min_6 : decode b_JM_min 6 = .ok (.goto 4, 3) := by decide +kernel
theorem d_JM_min_9 : decode b_JM_min 9 = .ok (.iload_n 1, 1) := by decide +kernel
theorem d_JM_min_10 : decode b_JM_min 10 = .ok (.ireturn, 1) := by decide +kernel
theorem d_JM_max_0 : decode b_JM_max 0 = .ok (.iload_n 0, 1) := by decide +kernel
theorem d_JM_max_1 : decode b_JM_max 1 = .ok (.iload_n 1, 1) := by decide +kernel
theorem d_JM_max_2 : decode b_JM_max 2 = .ok (.if_icmp .lt 7, 3) := by decide +kernel
theorem d_JM_max_5 : decode b_JM_max 5 = .ok (.iload_n 0, 1) := by decide +kernel
theorem d_JM_max_6 : decode b_JM_max 6 = .ok (.goto 4, 3) := by decide +kernel
theorem d_JM_max_9 : decode b_JM_max 9 = .ok (.iload_n 1, 1) := by decide +kernel
theorem d_JM_max_10 : decode b_JM_max 10 = .ok (.ireturn, 1) := by decide +kernel
theorem d_VF_within_0 : decode b_VF_within 0 = .ok (.iload_n 1, 1) := by decide +kernel
theorem d_VF_within_1 : decode b_VF_within 1 = .ok (.iload_n 0, 1) := by decide +kernel
theorem d_VF_within_2 : decode b_VF_within 2 = .ok (.if_icmp .gt 12, 3) := by decide +kernel
theorem d_VF_within_5 : decode b_VF_within 5 = .ok (.iload_n 0, 1) := by decide +kernel
theorem d_VF_within_6 : decode b_VF_within 6 = .ok (.iload_n 2, 1) := by decide +kernel
theorem d_VF_within_7 : decode b_VF_within 7 = .ok (.if_icmp .gt 7, 3) := by decide +kernel
theorem d_VF_within_10 : decode b_VF_within 10 = .ok (.iconst 1, 1) := by decide +kernel
theorem d_VF_within_11 : decode b_VF_within 11 = .ok (.goto 4, 3) := by decide +kernel
theorem d_VF_within_14 : decode b_VF_within 14 = .ok (.iconst 0, 1) := by decide +kernel
theorem d_VF_within_15 : decode b_VF_within 15 = .ok (.ireturn, 1) := by decide +kernel
theorem d_VF_madeNodes_0 : decode b_VF_madeNodes 0 = .ok (.iload_n 0, 1) := by decide +kernel
theorem d_VF_madeNodes_1 : decode b_VF_madeNodes 1 = .ok (.anewarray 81, 3) := by decide +kernel
theorem d_VF_madeNodes_4 : decode b_VF_madeNodes 4 = .ok (.astore_n 1, 1) := by decide +kernel
theorem d_VF_madeNodes_5 : decode b_VF_madeNodes 5 = .ok (.iconst 0, 1) := by decide +kernel
theorem d_VF_madeNodes_6 : decode b_VF_madeNodes 6 = .ok (.istore_n 2, 1) := by decide +kernel
theorem d_VF_madeNodes_7 : decode b_VF_madeNodes 7 = .ok (.iload_n 2, 1) := by decide +kernel
theorem d_VF_madeNodes_8 : decode b_VF_madeNodes 8 = .ok (.iload_n 0, 1) := by decide +kernel
theorem d_VF_madeNodes_9 : decode b_VF_madeNodes 9 = .ok (.if_icmp .ge 21, 3) := by decide +kernel
theorem d_VF_madeNodes_12 : decode b_VF_madeNodes 12 = .ok (.aload_n 1, 1) := by decide +kernel
theorem d_VF_madeNodes_13 : decode b_VF_madeNodes 13 = .ok (.iload_n 2, 1) := by decide +kernel
theorem d_VF_madeNodes_14 : decode b_VF_madeNodes 14 = .ok (.new 81, 3) := by decide +kernel
theorem d_VF_madeNodes_17 : decode b_VF_madeNodes 17 = .ok (.dup, 1) := by decide +kernel
theorem d_VF_madeNodes_18 : decode b_VF_madeNodes 18 = .ok (.iload_n 2, 1) := by decide +kernel
theorem d_VF_madeNodes_19 : decode b_VF_madeNodes 19 = .ok (.iload_n 0, 1) := by decide +kernel
theorem d_VF_madeNodes_20 : decode b_VF_madeNodes 20 = .ok (.invokespecial 168, 3) := by decide +kernel
theorem d_VF_madeNodes_23 : decode b_VF_madeNodes 23 = .ok (.aastore, 1) := by decide +kernel
theorem d_VF_madeNodes_24 : decode b_VF_madeNodes 24 = .ok (.iinc 2 1, 3) := by decide +kernel
theorem d_VF_madeNodes_27 : decode b_VF_madeNodes 27 = .ok (.goto (-20), 3) := by decide +kernel
theorem d_VF_madeNodes_30 : decode b_VF_madeNodes 30 = .ok (.aload_n 1, 1) := by decide +kernel
theorem d_VF_madeNodes_31 : decode b_VF_madeNodes 31 = .ok (.areturn, 1) := by decide +kernel
theorem d_VF_madeTasks_0 : decode b_VF_madeTasks 0 = .ok (.iconst 4, 1) := by decide +kernel
theorem d_VF_madeTasks_1 : decode b_VF_madeTasks 1 = .ok (.anewarray 110, 3) := by decide +kernel
theorem d_VF_madeTasks_4 : decode b_VF_madeTasks 4 = .ok (.astore_n 0, 1) := by decide +kernel
theorem d_VF_madeTasks_5 : decode b_VF_madeTasks 5 = .ok (.iconst 0, 1) := by decide +kernel
theorem d_VF_madeTasks_6 : decode b_VF_madeTasks 6 = .ok (.istore_n 1, 1) := by decide +kernel
theorem d_VF_madeTasks_7 : decode b_VF_madeTasks 7 = .ok (.iload_n 1, 1) := by decide +kernel
theorem d_VF_madeTasks_8 : decode b_VF_madeTasks 8 = .ok (.iconst 4, 1) := by decide +kernel
theorem d_VF_madeTasks_9 : decode b_VF_madeTasks 9 = .ok (.if_icmp .ge 19, 3) := by decide +kernel
theorem d_VF_madeTasks_12 : decode b_VF_madeTasks 12 = .ok (.aload_n 0, 1) := by decide +kernel
theorem d_VF_madeTasks_13 : decode b_VF_madeTasks 13 = .ok (.iload_n 1, 1) := by decide +kernel
theorem d_VF_madeTasks_14 : decode b_VF_madeTasks 14 = .ok (.new 110, 3) := by decide +kernel
theorem d_VF_madeTasks_17 : decode b_VF_madeTasks 17 = .ok (.dup, 1) := by decide +kernel
theorem d_VF_madeTasks_18 : decode b_VF_madeTasks 18 = .ok (.invokespecial 171, 3) := by decide +kernel
theorem d_VF_madeTasks_21 : decode b_VF_madeTasks 21 = .ok (.aastore, 1) := by decide +kernel
theorem d_VF_madeTasks_22 : decode b_VF_madeTasks 22 = .ok (.iinc 1 1, 3) := by decide +kernel
theorem d_VF_madeTasks_25 : decode b_VF_madeTasks 25 = .ok (.goto (-18), 3) := by decide +kernel
theorem d_VF_madeTasks_28 : decode b_VF_madeTasks 28 = .ok (.aload_n 0, 1) := by decide +kernel
theorem d_VF_madeTasks_29 : decode b_VF_madeTasks 29 = .ok (.areturn, 1) := by decide +kernel
theorem d_VF_clock_0 : decode b_VF_clock 0 = .ok (.aload_n 0, 1) := by decide +kernel
theorem d_VF_clock_1 : decode b_VF_clock 1 = .ok (.iload_n 1, 1) := by decide +kernel
theorem d_VF_clock_2 : decode b_VF_clock 2 = .ok (.invokevirtual 72, 3) := by decide +kernel
theorem d_VF_clock_5 : decode b_VF_clock 5 = .ok (.ifCond .eq 21, 3) := by decide +kernel
theorem d_VF_clock_8 : decode b_VF_clock 8 = .ok (.iload_n 2, 1) := by decide +kernel
theorem d_VF_clock_9 : decode b_VF_clock 9 = .ok (.sipush 500, 3) := by decide +kernel
theorem d_VF_clock_12 : decode b_VF_clock 12 = .ok (.invokestatic 76, 3) := by decide +kernel
theorem d_VF_clock_15 : decode b_VF_clock 15 = .ok (.ifCond .eq 11, 3) := by decide +kernel
theorem d_VF_clock_18 : decode b_VF_clock 18 = .ok (.iload_n 3, 1) := by decide +kernel
theorem d_VF_clock_19 : decode b_VF_clock 19 = .ok (.iconst 2, 1) := by decide +kernel
theorem d_VF_clock_20 : decode b_VF_clock 20 = .ok (.invokestatic 76, 3) := by decide +kernel
theorem d_VF_clock_23 : decode b_VF_clock 23 = .ok (.ifCond .ne 5, 3) := by decide +kernel
theorem d_VF_clock_26 : decode b_VF_clock 26 = .ok (.iconst 0, 1) := by decide +kernel
theorem d_VF_clock_27 : decode b_VF_clock 27 = .ok (.ireturn, 1) := by decide +kernel
theorem d_VF_clock_28 : decode b_VF_clock 28 = .ok (.aload_n 0, 1) := by decide +kernel
theorem d_VF_clock_29 : decode b_VF_clock 29 = .ok (.getfield 31, 3) := by decide +kernel
theorem d_VF_clock_32 : decode b_VF_clock 32 = .ok (.iload_n 1, 1) := by decide +kernel
theorem d_VF_clock_33 : decode b_VF_clock 33 = .ok (.aaload, 1) := by decide +kernel
theorem d_VF_clock_34 : decode b_VF_clock 34 = .ok (.iload_n 2, 1) := by decide +kernel
theorem d_VF_clock_35 : decode b_VF_clock 35 = .ok (.putfield 80, 3) := by decide +kernel
theorem d_VF_clock_38 : decode b_VF_clock 38 = .ok (.aload_n 0, 1) := by decide +kernel
theorem d_VF_clock_39 : decode b_VF_clock 39 = .ok (.getfield 31, 3) := by decide +kernel
theorem d_VF_clock_42 : decode b_VF_clock 42 = .ok (.iload_n 1, 1) := by decide +kernel
theorem d_VF_clock_43 : decode b_VF_clock 43 = .ok (.aaload, 1) := by decide +kernel
theorem d_VF_clock_44 : decode b_VF_clock 44 = .ok (.iload_n 3, 1) := by decide +kernel
theorem d_VF_clock_45 : decode b_VF_clock 45 = .ok (.putfield 85, 3) := by decide +kernel
theorem d_VF_clock_48 : decode b_VF_clock 48 = .ok (.iconst 1, 1) := by decide +kernel
theorem d_VF_clock_49 : decode b_VF_clock 49 = .ok (.ireturn, 1) := by decide +kernel
theorem d_VF_isNode_0 : decode b_VF_isNode 0 = .ok (.iload_n 1, 1) := by decide +kernel
theorem d_VF_isNode_1 : decode b_VF_isNode 1 = .ok (.iconst 0, 1) := by decide +kernel
theorem d_VF_isNode_2 : decode b_VF_isNode 2 = .ok (.aload_n 0, 1) := by decide +kernel
theorem d_VF_isNode_3 : decode b_VF_isNode 3 = .ok (.getfield 13, 3) := by decide +kernel
theorem d_VF_isNode_6 : decode b_VF_isNode 6 = .ok (.iconst 1, 1) := by decide +kernel
theorem d_VF_isNode_7 : decode b_VF_isNode 7 = .ok (.isub, 1) := by decide +kernel
theorem d_VF_isNode_8 : decode b_VF_isNode 8 = .ok (.invokestatic 17, 3) := by decide +kernel
theorem d_VF_isNode_11 : decode b_VF_isNode 11 = .ok (.ireturn, 1) := by decide +kernel
theorem d_VF_isAtMost_0 : decode b_VF_isAtMost 0 = .ok (.iload_n 0, 1) := by decide +kernel
theorem d_VF_isAtMost_1 : decode b_VF_isAtMost 1 = .ok (.iload_n 1, 1) := by decide +kernel
theorem d_VF_isAtMost_2 : decode b_VF_isAtMost 2 = .ok (.ineg, 1) := by decide +kernel
theorem d_VF_isAtMost_3 : decode b_VF_isAtMost 3 = .ok (.iload_n 1, 1) := by decide +kernel
theorem d_VF_isAtMost_4 : decode b_VF_isAtMost 4 = .ok (.invokestatic 17, 3) := by decide +kernel
theorem d_VF_isAtMost_7 : decode b_VF_isAtMost 7 = .ok (.ireturn, 1) := by decide +kernel
theorem d_VF_link_0 : decode b_VF_link 0 = .ok (.aload_n 0, 1) := by decide +kernel
theorem d_VF_link_1 : decode b_VF_link 1 = .ok (.iload_n 1, 1) := by decide +kernel
theorem d_VF_link_2 : decode b_VF_link 2 = .ok (.invokevirtual 72, 3) := by decide +kernel
theorem d_VF_link_5 : decode b_VF_link 5 = .ok (.ifCond .eq 16, 3) := by decide +kernel
theorem d_VF_link_8 : decode b_VF_link 8 = .ok (.aload_n 0, 1) := by decide +kernel
theorem d_VF_link_9 : decode b_VF_link 9 = .ok (.iload_n 2, 1) := by decide +kernel
theorem d_VF_link_10 : decode b_VF_link 10 = .ok (.invokevirtual 72, 3) := by decide +kernel
theorem d_VF_link_13 : decode b_VF_link 13 = .ok (.ifCond .eq 8, 3) := by decide +kernel
theorem d_VF_link_16 : decode b_VF_link 16 = .ok (.iload_n 1, 1) := by decide +kernel
theorem d_VF_link_17 : decode b_VF_link 17 = .ok (.iload_n 2, 1) := by decide +kernel
theorem d_VF_link_18 : decode b_VF_link 18 = .ok (.if_icmp .ne 5, 3) := by decide +kernel
theorem d_VF_link_21 : decode b_VF_link 21 = .ok (.iconst 0, 1) := by decide +kernel
theorem d_VF_link_22 : decode b_VF_link 22 = .ok (.ireturn, 1) := by decide +kernel
theorem d_VF_link_23 : decode b_VF_link 23 = .ok (.iload_n 3, 1) := by decide +kernel
theorem d_VF_link_24 : decode b_VF_link 24 = .ok (.iconst 0, 1) := by decide +kernel
theorem d_VF_link_25 : decode b_VF_link 25 = .ok (.bipush 20, 2) := by decide +kernel
theorem d_VF_link_27 : decode b_VF_link 27 = .ok (.invokestatic 17, 3) := by decide +kernel
theorem d_VF_link_30 : decode b_VF_link 30 = .ok (.ifCond .eq 12, 3) := by decide +kernel
theorem d_VF_link_33 : decode b_VF_link 33 = .ok (.iload 4, 2) := by decide +kernel
theorem d_VF_link_35 : decode b_VF_link 35 = .ok (.iconst 3, 1) := by decide +kernel
theorem d_VF_link_36 : decode b_VF_link 36 = .ok (.invokestatic 76, 3) := by decide +kernel
theorem d_VF_link_39 : decode b_VF_link 39 = .ok (.ifCond .ne 5, 3) := by decide +kernel
theorem d_VF_link_42 : decode b_VF_link 42 = .ok (.iconst 0, 1) := by decide +kernel
theorem d_VF_link_43 : decode b_VF_link 43 = .ok (.ireturn, 1) := by decide +kernel
theorem d_VF_link_44 : decode b_VF_link 44 = .ok (.aload_n 0, 1) := by decide +kernel
theorem d_VF_link_45 : decode b_VF_link 45 = .ok (.getfield 31, 3) := by decide +kernel
theorem d_VF_link_48 : decode b_VF_link 48 = .ok (.iload_n 2, 1) := by decide +kernel
theorem d_VF_link_49 : decode b_VF_link 49 = .ok (.aaload, 1) := by decide +kernel
theorem d_VF_link_50 : decode b_VF_link 50 = .ok (.getfield 88, 3) := by decide +kernel
theorem d_VF_link_53 : decode b_VF_link 53 = .ok (.iload_n 1, 1) := by decide +kernel
theorem d_VF_link_54 : decode b_VF_link 54 = .ok (.iload_n 3, 1) := by decide +kernel
theorem d_VF_link_55 : decode b_VF_link 55 = .ok (.iastore, 1) := by decide +kernel
theorem d_VF_link_56 : decode b_VF_link 56 = .ok (.aload_n 0, 1) := by decide +kernel
theorem d_VF_link_57 : decode b_VF_link 57 = .ok (.getfield 31, 3) := by decide +kernel
theorem d_VF_link_60 : decode b_VF_link 60 = .ok (.iload_n 2, 1) := by decide +kernel
theorem d_VF_link_61 : decode b_VF_link 61 = .ok (.aaload, 1) := by decide +kernel
theorem d_VF_link_62 : decode b_VF_link 62 = .ok (.getfield 91, 3) := by decide +kernel
theorem d_VF_link_65 : decode b_VF_link 65 = .ok (.iload_n 1, 1) := by decide +kernel
theorem d_VF_link_66 : decode b_VF_link 66 = .ok (.iload 4, 2) := by decide +kernel
theorem d_VF_link_68 : decode b_VF_link 68 = .ok (.iastore, 1) := by decide +kernel
theorem d_VF_link_69 : decode b_VF_link 69 = .ok (.iconst 1, 1) := by decide +kernel
theorem d_VF_link_70 : decode b_VF_link 70 = .ok (.ireturn, 1) := by decide +kernel
theorem d_VF_sensor_0 : decode b_VF_sensor 0 = .ok (.aload_n 0, 1) := by decide +kernel
theorem d_VF_sensor_1 : decode b_VF_sensor 1 = .ok (.iload_n 1, 1) := by decide +kernel
theorem d_VF_sensor_2 : decode b_VF_sensor 2 = .ok (.invokevirtual 72, 3) := by decide +kernel
theorem d_VF_sensor_5 : decode b_VF_sensor 5 = .ok (.ifCond .ne 5, 3) := by decide +kernel
theorem d_VF_sensor_8 : decode b_VF_sensor 8 = .ok (.iconst 0, 1) := by decide +kernel
theorem d_VF_sensor_9 : decode b_VF_sensor 9 = .ok (.ireturn, 1) := by decide +kernel
theorem d_VF_sensor_10 : decode b_VF_sensor 10 = .ok (.aload_n 0, 1) := by decide +kernel
theorem d_VF_sensor_11 : decode b_VF_sensor 11 = .ok (.getfield 31, 3) := by decide +kernel
theorem d_VF_sensor_14 : decode b_VF_sensor 14 = .ok (.iload_n 1, 1) := by decide +kernel
theorem d_VF_sensor_15 : decode b_VF_sensor 15 = .ok (.aaload, 1) := by decide +kernel
theorem d_VF_sensor_16 : decode b_VF_sensor 16 = .ok (.iload_n 2, 1) := by decide +kernel
theorem d_VF_sensor_17 : decode b_VF_sensor 17 = .ok (.putfield 94, 3) := by decide +kernel
theorem d_VF_sensor_20 : decode b_VF_sensor 20 = .ok (.iconst 1, 1) := by decide +kernel
theorem d_VF_sensor_21 : decode b_VF_sensor 21 = .ok (.ireturn, 1) := by decide +kernel
theorem d_VF_fault_0 : decode b_VF_fault 0 = .ok (.aload_n 0, 1) := by decide +kernel
theorem d_VF_fault_1 : decode b_VF_fault 1 = .ok (.iload_n 1, 1) := by decide +kernel
theorem d_VF_fault_2 : decode b_VF_fault 2 = .ok (.invokevirtual 72, 3) := by decide +kernel
theorem d_VF_fault_5 : decode b_VF_fault 5 = .ok (.ifCond .eq 22, 3) := by decide +kernel
theorem d_VF_fault_8 : decode b_VF_fault 8 = .ok (.iload_n 2, 1) := by decide +kernel
theorem d_VF_fault_9 : decode b_VF_fault 9 = .ok (.iconst 0, 1) := by decide +kernel
theorem d_VF_fault_10 : decode b_VF_fault 10 = .ok (.iconst 5, 1) := by decide +kernel
theorem d_VF_fault_11 : decode b_VF_fault 11 = .ok (.invokestatic 17, 3) := by decide +kernel
theorem d_VF_fault_14 : decode b_VF_fault 14 = .ok (.ifCond .eq 13, 3) := by decide +kernel
theorem d_VF_fault_17 : decode b_VF_fault 17 = .ok (.iload_n 3, 1) := by decide +kernel
theorem d_VF_fault_18 : decode b_VF_fault 18 = .ok (.sipush 5000, 3) := by decide +kernel
theorem d_VF_fault_21 : decode b_VF_fault 21 = .ok (.invokestatic 76, 3) := by decide +kernel
theorem d_VF_fault_24 : decode b_VF_fault 24 = .ok (.ifCond .ne 5, 3) := by decide +kernel
theorem d_VF_fault_27 : decode b_VF_fault 27 = .ok (.iconst 0, 1) := by decide +kernel
theorem d_VF_fault_28 : decode b_VF_fault 28 = .ok (.ireturn, 1) := by decide +kernel
theorem d_VF_fault_29 : decode b_VF_fault 29 = .ok (.aload_n 0, 1) := by decide +kernel
theorem d_VF_fault_30 : decode b_VF_fault 30 = .ok (.getfield 31, 3) := by decide +kernel
theorem d_VF_fault_33 : decode b_VF_fault 33 = .ok (.iload_n 1, 1) := by decide +kernel
theorem d_VF_fault_34 : decode b_VF_fault 34 = .ok (.aaload, 1) := by decide +kernel
theorem d_VF_fault_35 : decode b_VF_fault 35 = .ok (.iload_n 2, 1) := by decide +kernel
theorem d_VF_fault_36 : decode b_VF_fault 36 = .ok (.putfield 97, 3) := by decide +kernel
theorem d_VF_fault_39 : decode b_VF_fault 39 = .ok (.aload_n 0, 1) := by decide +kernel
theorem d_VF_fault_40 : decode b_VF_fault 40 = .ok (.getfield 31, 3) := by decide +kernel
theorem d_VF_fault_43 : decode b_VF_fault 43 = .ok (.iload_n 1, 1) := by decide +kernel
theorem d_VF_fault_44 : decode b_VF_fault 44 = .ok (.aaload, 1) := by decide +kernel
theorem d_VF_fault_45 : decode b_VF_fault 45 = .ok (.iload_n 3, 1) := by decide +kernel
theorem d_VF_fault_46 : decode b_VF_fault 46 = .ok (.putfield 100, 3) := by decide +kernel
theorem d_VF_fault_49 : decode b_VF_fault 49 = .ok (.iconst 1, 1) := by decide +kernel
theorem d_VF_fault_50 : decode b_VF_fault 50 = .ok (.ireturn, 1) := by decide +kernel
theorem d_VF_code_0 : decode b_VF_code 0 = .ok (.iload_n 1, 1) := by decide +kernel
theorem d_VF_code_1 : decode b_VF_code 1 = .ok (.invokestatic 103, 3) := by decide +kernel
theorem d_VF_code_4 : decode b_VF_code 4 = .ok (.ifCond .eq 22, 3) := by decide +kernel
theorem d_VF_code_7 : decode b_VF_code 7 = .ok (.iload_n 2, 1) := by decide +kernel
theorem d_VF_code_8 : decode b_VF_code 8 = .ok (.iconst 0, 1) := by decide +kernel
theorem d_VF_code_9 : decode b_VF_code 9 = .ok (.bipush 9, 2) := by decide +kernel
theorem d_VF_code_11 : decode b_VF_code 11 = .ok (.invokestatic 17, 3) := by decide +kernel
theorem d_VF_code_14 : decode b_VF_code 14 = .ok (.ifCond .eq 12, 3) := by decide +kernel
theorem d_VF_code_17 : decode b_VF_code 17 = .ok (.aload_n 0, 1) := by decide +kernel
theorem d_VF_code_18 : decode b_VF_code 18 = .ok (.iload_n 2, 1) := by decide +kernel
theorem d_VF_code_19 : decode b_VF_code 19 = .ok (.iload_n 3, 1) := by decide +kernel
theorem d_VF_code_20 : decode b_VF_code 20 = .ok (.invokevirtual 106, 3) := by decide +kernel
theorem d_VF_code_23 : decode b_VF_code 23 = .ok (.ifCond .ne 5, 3) := by decide +kernel
theorem d_VF_code_26 : decode b_VF_code 26 = .ok (.iconst 0, 1) := by decide +kernel
theorem d_VF_code_27 : decode b_VF_code 27 = .ok (.ireturn, 1) := by decide +kernel
theorem d_VF_code_28 : decode b_VF_code 28 = .ok (.aload_n 0, 1) := by decide +kernel
theorem d_VF_code_29 : decode b_VF_code 29 = .ok (.getfield 48, 3) := by decide +kernel
theorem d_VF_code_32 : decode b_VF_code 32 = .ok (.iload_n 1, 1) := by decide +kernel
theorem d_VF_code_33 : decode b_VF_code 33 = .ok (.aaload, 1) := by decide +kernel
theorem d_VF_code_34 : decode b_VF_code 34 = .ok (.iload_n 2, 1) := by decide +kernel
theorem d_VF_code_35 : decode b_VF_code 35 = .ok (.iload_n 3, 1) := by decide +kernel
theorem d_VF_code_36 : decode b_VF_code 36 = .ok (.invokevirtual 109, 3) := by decide +kernel
theorem d_VF_code_39 : decode b_VF_code 39 = .ok (.ireturn, 1) := by decide +kernel
theorem d_VF_isTask_0 : decode b_VF_isTask 0 = .ok (.iload_n 0, 1) := by decide +kernel
theorem d_VF_isTask_1 : decode b_VF_isTask 1 = .ok (.iconst 0, 1) := by decide +kernel
theorem d_VF_isTask_2 : decode b_VF_isTask 2 = .ok (.iconst 3, 1) := by decide +kernel
theorem d_VF_isTask_3 : decode b_VF_isTask 3 = .ok (.invokestatic 17, 3) := by decide +kernel
theorem d_VF_isTask_6 : decode b_VF_isTask 6 = .ok (.ireturn, 1) := by decide +kernel
theorem d_VF_fitsInstruction_0 : decode b_VF_fitsInstruction 0 = .ok (.iload_n 1, 1) := by decide +kernel
theorem d_VF_fitsInstruction_1 : decode b_VF_fitsInstruction 1 = .ok (.lookupswitch 56 #[(1, 35), (2, 41), (8, 48)], 35) := by decide +kernel
theorem d_VF_fitsInstruction_36 : decode b_VF_fitsInstruction 36 = .ok (.aload_n 0, 1) := by decide +kernel
theorem d_VF_fitsInstruction_37 : decode b_VF_fitsInstruction 37 = .ok (.iload_n 2, 1) := by decide +kernel
theorem d_VF_fitsInstruction_38 : decode b_VF_fitsInstruction 38 = .ok (.invokevirtual 72, 3) := by decide +kernel
theorem d_VF_fitsInstruction_41 : decode b_VF_fitsInstruction 41 = .ok (.ireturn, 1) := by decide +kernel
theorem d_VF_fitsInstruction_42 : decode b_VF_fitsInstruction 42 = .ok (.iload_n 2, 1) := by decide +kernel
theorem d_VF_fitsInstruction_43 : decode b_VF_fitsInstruction 43 = .ok (.iconst 0, 1) := by decide +kernel
theorem d_VF_fitsInstruction_44 : decode b_VF_fitsInstruction 44 = .ok (.iconst 3, 1) := by decide +kernel
theorem d_VF_fitsInstruction_45 : decode b_VF_fitsInstruction 45 = .ok (.invokestatic 17, 3) := by decide +kernel
theorem d_VF_fitsInstruction_48 : decode b_VF_fitsInstruction 48 = .ok (.ireturn, 1) := by decide +kernel
theorem d_VF_fitsInstruction_49 : decode b_VF_fitsInstruction 49 = .ok (.iload_n 2, 1) := by decide +kernel
theorem d_VF_fitsInstruction_50 : decode b_VF_fitsInstruction 50 = .ok (.iconst 0, 1) := by decide +kernel
theorem d_VF_fitsInstruction_51 : decode b_VF_fitsInstruction 51 = .ok (.bipush 11, 2) := by decide +kernel
theorem d_VF_fitsInstruction_53 : decode b_VF_fitsInstruction 53 = .ok (.invokestatic 17, 3) := by decide +kernel
theorem d_VF_fitsInstruction_56 : decode b_VF_fitsInstruction 56 = .ok (.ireturn, 1) := by decide +kernel
theorem d_VF_fitsInstruction_57 : decode b_VF_fitsInstruction 57 = .ok (.iconst 1, 1) := by decide +kernel
theorem d_VF_fitsInstruction_58 : decode b_VF_fitsInstruction 58 = .ok (.ireturn, 1) := by decide +kernel
theorem d_VF_clear_0 : decode b_VF_clear 0 = .ok (.iload_n 1, 1) := by decide +kernel
theorem d_VF_clear_1 : decode b_VF_clear 1 = .ok (.invokestatic 103, 3) := by decide +kernel
theorem d_VF_clear_4 : decode b_VF_clear 4 = .ok (.ifCond .eq 15, 3) := by decide +kernel
theorem d_VF_clear_7 : decode b_VF_clear 7 = .ok (.aload_n 0, 1) := by decide +kernel
theorem d_VF_clear_8 : decode b_VF_clear 8 = .ok (.getfield 48, 3) := by decide +kernel
theorem d_VF_clear_11 : decode b_VF_clear 11 = .ok (.iload_n 1, 1) := by decide +kernel
theorem d_VF_clear_12 : decode b_VF_clear 12 = .ok (.aaload, 1) := by decide +kernel
theorem d_VF_clear_13 : decode b_VF_clear 13 = .ok (.invokevirtual 114, 3) := by decide +kernel
theorem d_VF_clear_16 : decode b_VF_clear 16 = .ok (.goto 4, 3) := by decide +kernel
theorem d_VF_clear_19 : decode b_VF_clear 19 = .ok (.iconst (-1), 1) := by decide +kernel
theorem d_VF_clear_20 : decode b_VF_clear 20 = .ok (.ireturn, 1) := by decide +kernel
theorem d_VF_due_0 : decode b_VF_due 0 = .ok (.iload_n 1, 1) := by decide +kernel
theorem d_VF_due_1 : decode b_VF_due 1 = .ok (.invokestatic 103, 3) := by decide +kernel
theorem d_VF_due_4 : decode b_VF_due 4 = .ok (.ifCond .eq 24, 3) := by decide +kernel
theorem d_VF_due_7 : decode b_VF_due 7 = .ok (.iload_n 2, 1) := by decide +kernel
theorem d_VF_due_8 : decode b_VF_due 8 = .ok (.iconst 1, 1) := by decide +kernel
theorem d_VF_due_9 : decode b_VF_due 9 = .ok (.bipush 8, 2) := by decide +kernel
theorem d_VF_due_11 : decode b_VF_due 11 = .ok (.invokestatic 17, 3) := by decide +kernel
theorem d_VF_due_14 : decode b_VF_due 14 = .ok (.ifCond .eq 14, 3) := by decide +kernel
theorem d_VF_due_17 : decode b_VF_due 17 = .ok (.iload_n 3, 1) := by decide +kernel
theorem d_VF_due_18 : decode b_VF_due 18 = .ok (.iconst 0, 1) := by decide +kernel
theorem d_VF_due_19 : decode b_VF_due 19 = .ok (.iload_n 2, 1) := by decide +kernel
theorem d_VF_due_20 : decode b_VF_due 20 = .ok (.iconst 1, 1) := by decide +kernel
theorem d_VF_due_21 : decode b_VF_due 21 = .ok (.isub, 1) := by decide +kernel
theorem d_VF_due_22 : decode b_VF_due 22 = .ok (.invokestatic 17, 3) := by decide +kernel
theorem d_VF_due_25 : decode b_VF_due 25 = .ok (.ifCond .ne 5, 3) := by decide +kernel
theorem d_VF_due_28 : decode b_VF_due 28 = .ok (.iconst 0, 1) := by decide +kernel
theorem d_VF_due_29 : decode b_VF_due 29 = .ok (.ireturn, 1) := by decide +kernel
theorem d_VF_due_30 : decode b_VF_due 30 = .ok (.aload_n 0, 1) := by decide +kernel
theorem d_VF_due_31 : decode b_VF_due 31 = .ok (.getfield 48, 3) := by decide +kernel
theorem d_VF_due_34 : decode b_VF_due 34 = .ok (.iload_n 1, 1) := by decide +kernel
theorem d_VF_due_35 : decode b_VF_due 35 = .ok (.aaload, 1) := by decide +kernel
theorem d_VF_due_36 : decode b_VF_due 36 = .ok (.iload_n 2, 1) := by decide +kernel
theorem d_VF_due_37 : decode b_VF_due 37 = .ok (.putfield 118, 3) := by decide +kernel
theorem d_VF_due_40 : decode b_VF_due 40 = .ok (.aload_n 0, 1) := by decide +kernel
theorem d_VF_due_41 : decode b_VF_due 41 = .ok (.getfield 48, 3) := by decide +kernel
theorem d_VF_due_44 : decode b_VF_due 44 = .ok (.iload_n 1, 1) := by decide +kernel
theorem d_VF_due_45 : decode b_VF_due 45 = .ok (.aaload, 1) := by decide +kernel
theorem d_VF_due_46 : decode b_VF_due 46 = .ok (.iload_n 3, 1) := by decide +kernel
theorem d_VF_due_47 : decode b_VF_due 47 = .ok (.putfield 121, 3) := by decide +kernel
theorem d_VF_due_50 : decode b_VF_due 50 = .ok (.iconst 1, 1) := by decide +kernel
theorem d_VF_due_51 : decode b_VF_due 51 = .ok (.ireturn, 1) := by decide +kernel
theorem d_VF_run_0 : decode b_VF_run 0 = .ok (.iload_n 1, 1) := by decide +kernel
theorem d_VF_run_1 : decode b_VF_run 1 = .ok (.iconst 1, 1) := by decide +kernel
theorem d_VF_run_2 : decode b_VF_run 2 = .ok (.iconst 4, 1) := by decide +kernel
theorem d_VF_run_3 : decode b_VF_run 3 = .ok (.invokestatic 17, 3) := by decide +kernel
theorem d_VF_run_6 : decode b_VF_run 6 = .ok (.ifCond .ne 5, 3) := by decide +kernel
theorem d_VF_run_9 : decode b_VF_run 9 = .ok (.iconst (-1), 1) := by decide +kernel
theorem d_VF_run_10 : decode b_VF_run 10 = .ok (.ireturn, 1) := by decide +kernel
theorem d_VF_run_11 : decode b_VF_run 11 = .ok (.iconst 0, 1) := by decide +kernel
theorem d_VF_run_12 : decode b_VF_run 12 = .ok (.istore_n 2, 1) := by decide +kernel
theorem d_VF_run_13 : decode b_VF_run 13 = .ok (.iconst 0, 1) := by decide +kernel
theorem d_VF_run_14 : decode b_VF_run 14 = .ok (.istore_n 3, 1) := by decide +kernel
theorem d_VF_run_15 : decode b_VF_run 15 = .ok (.iload_n 3, 1) := by decide +kernel
theorem d_VF_run_16 : decode b_VF_run 16 = .ok (.iload_n 1, 1) := by decide +kernel
theorem d_VF_run_17 : decode b_VF_run 17 = .ok (.if_icmp .ge 16, 3) := by decide +kernel
theorem d_VF_run_20 : decode b_VF_run 20 = .ok (.iload_n 2, 1) := by decide +kernel
theorem d_VF_run_21 : decode b_VF_run 21 = .ok (.aload_n 0, 1) := by decide +kernel
theorem d_VF_run_22 : decode b_VF_run 22 = .ok (.invokevirtual 124, 3) := by decide +kernel
theorem d_VF_run_25 : decode b_VF_run 25 = .ok (.iadd, 1) := by decide +kernel
theorem d_VF_run_26 : decode b_VF_run 26 = .ok (.istore_n 2, 1) := by decide +kernel
theorem d_VF_run_27 : decode b_VF_run 27 = .ok (.iinc 3 1, 3) := by decide +kernel
theorem d_VF_run_30 : decode b_VF_run 30 = .ok (.goto (-15), 3) := by decide +kernel
theorem d_VF_run_33 : decode b_VF_run 33 = .ok (.iload_n 2, 1) := by decide +kernel
theorem d_VF_run_34 : decode b_VF_run 34 = .ok (.ireturn, 1) := by decide +kernel
theorem d_VF_runFrame_0 : decode b_VF_runFrame 0 = .ok (.aload_n 0, 1) := by decide +kernel
theorem d_VF_runFrame_1 : decode b_VF_runFrame 1 = .ok (.invokevirtual 172, 3) := by decide +kernel
theorem d_VF_runFrame_4 : decode b_VF_runFrame 4 = .ok (.aload_n 0, 1) := by decide +kernel
theorem d_VF_runFrame_5 : decode b_VF_runFrame 5 = .ok (.getfield 40, 3) := by decide +kernel
theorem d_VF_runFrame_8 : decode b_VF_runFrame 8 = .ok (.aload_n 0, 1) := by decide +kernel
theorem d_VF_runFrame_9 : decode b_VF_runFrame 9 = .ok (.getfield 127, 3) := by decide +kernel
theorem d_VF_runFrame_12 : decode b_VF_runFrame 12 = .ok (.invokevirtual 175, 3) := by decide +kernel
theorem d_VF_runFrame_15 : decode b_VF_runFrame 15 = .ok (.aload_n 0, 1) := by decide +kernel
theorem d_VF_runFrame_16 : decode b_VF_runFrame 16 = .ok (.invokevirtual 179, 3) := by decide +kernel
theorem d_VF_runFrame_19 : decode b_VF_runFrame 19 = .ok (.aload_n 0, 1) := by decide +kernel
theorem d_VF_runFrame_20 : decode b_VF_runFrame 20 = .ok (.invokevirtual 182, 3) := by decide +kernel
theorem d_VF_runFrame_23 : decode b_VF_runFrame 23 = .ok (.aload_n 0, 1) := by decide +kernel
theorem d_VF_runFrame_24 : decode b_VF_runFrame 24 = .ok (.invokevirtual 185, 3) := by decide +kernel
theorem d_VF_runFrame_27 : decode b_VF_runFrame 27 = .ok (.aload_n 0, 1) := by decide +kernel
theorem d_VF_runFrame_28 : decode b_VF_runFrame 28 = .ok (.invokevirtual 188, 3) := by decide +kernel
theorem d_VF_runFrame_31 : decode b_VF_runFrame 31 = .ok (.istore_n 1, 1) := by decide +kernel
theorem d_VF_runFrame_32 : decode b_VF_runFrame 32 = .ok (.aload_n 0, 1) := by decide +kernel
theorem d_VF_runFrame_33 : decode b_VF_runFrame 33 = .ok (.invokevirtual 191, 3) := by decide +kernel
theorem d_VF_runFrame_36 : decode b_VF_runFrame 36 = .ok (.aload_n 0, 1) := by decide +kernel
theorem d_VF_runFrame_37 : decode b_VF_runFrame 37 = .ok (.dup, 1) := by decide +kernel
theorem d_VF_runFrame_38 : decode b_VF_runFrame 38 = .ok (.getfield 127, 3) := by decide +kernel
theorem d_VF_runFrame_41 : decode b_VF_runFrame 41 = .ok (.iconst 1, 1) := by decide +kernel
theorem d_VF_runFrame_42 : decode b_VF_runFrame 42 = .ok (.iadd, 1) := by decide +kernel
theorem d_VF_runFrame_43 : decode b_VF_runFrame 43 = .ok (.putfield 127, 3) := by decide +kernel
theorem d_VF_runFrame_46 : decode b_VF_runFrame 46 = .ok (.iload_n 1, 1) := by decide +kernel
theorem d_VF_runFrame_47 : decode b_VF_runFrame 47 = .ok (.ireturn, 1) := by decide +kernel
theorem d_VF_openLines_0 : decode b_VF_openLines 0 = .ok (.iconst 0, 1) := by decide +kernel
theorem d_VF_openLines_1 : decode b_VF_openLines 1 = .ok (.istore_n 1, 1) := by decide +kernel
theorem d_VF_openLines_2 : decode b_VF_openLines 2 = .ok (.iload_n 1, 1) := by decide +kernel
theorem d_VF_openLines_3 : decode b_VF_openLines 3 = .ok (.aload_n 0, 1) := by decide +kernel
theorem d_VF_openLines_4 : decode b_VF_openLines 4 = .ok (.getfield 13, 3) := by decide +kernel
theorem d_VF_openLines_7 : decode b_VF_openLines 7 = .ok (.if_icmp .ge 73, 3) := by decide +kernel
theorem d_VF_openLines_10 : decode b_VF_openLines 10 = .ok (.iconst 0, 1) := by decide +kernel
theorem d_VF_openLines_11 : decode b_VF_openLines 11 = .ok (.istore_n 2, 1) := by decide +kernel
theorem d_VF_openLines_12 : decode b_VF_openLines 12 = .ok (.iconst 0, 1) := by decide +kernel
theorem d_VF_openLines_13 : decode b_VF_openLines 13 = .ok (.istore_n 3, 1) := by decide +kernel
theorem d_VF_openLines_14 : decode b_VF_openLines 14 = .ok (.iload_n 3, 1) := by decide +kernel
theorem d_VF_openLines_15 : decode b_VF_openLines 15 = .ok (.aload_n 0, 1) := by decide +kernel
theorem d_VF_openLines_16 : decode b_VF_openLines 16 = .ok (.getfield 13, 3) := by decide +kernel
theorem d_VF_openLines_19 : decode b_VF_openLines 19 = .ok (.if_icmp .ge 45, 3) := by decide +kernel
theorem d_VF_openLines_22 : decode b_VF_openLines 22 = .ok (.iload_n 3, 1) := by decide +kernel
theorem d_VF_openLines_23 : decode b_VF_openLines 23 = .ok (.iload_n 1, 1) := by decide +kernel
theorem d_VF_openLines_24 : decode b_VF_openLines 24 = .ok (.if_icmp .eq 34, 3) := by decide +kernel
theorem d_VF_openLines_27 : decode b_VF_openLines 27 = .ok (.aload_n 0, 1) := by decide +kernel
theorem d_VF_openLines_28 : decode b_VF_openLines 28 = .ok (.getfield 31, 3) := by decide +kernel
theorem d_VF_openLines_31 : decode b_VF_openLines 31 = .ok (.iload_n 1, 1) := by decide +kernel
theorem d_VF_openLines_32 : decode b_VF_openLines 32 = .ok (.aaload, 1) := by decide +kernel
theorem d_VF_openLines_33 : decode b_VF_openLines 33 = .ok (.aload_n 0, 1) := by decide +kernel
theorem d_VF_openLines_34 : decode b_VF_openLines 34 = .ok (.getfield 31, 3) := by decide +kernel
theorem d_VF_openLines_37 : decode b_VF_openLines 37 = .ok (.iload_n 3, 1) := by decide +kernel
theorem d_VF_openLines_38 : decode b_VF_openLines 38 = .ok (.aaload, 1) := by decide +kernel
theorem d_VF_openLines_39 : decode b_VF_openLines 39 = .ok (.aload_n 0, 1) := by decide +kernel
theorem d_VF_openLines_40 : decode b_VF_openLines 40 = .ok (.getfield 24, 3) := by decide +kernel
theorem d_VF_openLines_43 : decode b_VF_openLines 43 = .ok (.bipush 20, 2) := by decide +kernel
theorem d_VF_openLines_45 : decode b_VF_openLines 45 = .ok (.iadd, 1) := by decide +kernel
theorem d_VF_openLines_46 : decode b_VF_openLines 46 = .ok (.invokevirtual 194, 3) := by decide +kernel
theorem d_VF_openLines_49 : decode b_VF_openLines 49 = .ok (.ifCond .eq 9, 3) := by decide +kernel
theorem d_VF_openLines_52 : decode b_VF_openLines 52 = .ok (.iload_n 2, 1) := by decide +kernel
theorem d_VF_openLines_53 : decode b_VF_openLines 53 = .ok (.iconst 1, 1) := by decide +kernel
theorem d_VF_openLines_54 : decode b_VF_openLines 54 = .ok (.iload_n 3, 1) := by decide +kernel
theorem d_VF_openLines_55 : decode b_VF_openLines 55 = .ok (.ishl, 1) := by decide +kernel
theorem d_VF_openLines_56 : decode b_VF_openLines 56 = .ok (.ior, 1) := by decide +kernel
theorem d_VF_openLines_57 : decode b_VF_openLines 57 = .ok (.istore_n 2, 1) := by decide +kernel
theorem d_VF_openLines_58 : decode b_VF_openLines 58 = .ok (.iinc 3 1, 3) := by decide +kernel
theorem d_VF_openLines_61 : decode b_VF_openLines 61 = .ok (.goto (-47), 3) := by decide +kernel
theorem d_VF_openLines_64 : decode b_VF_openLines 64 = .ok (.aload_n 0, 1) := by decide +kernel
theorem d_VF_openLines_65 : decode b_VF_openLines 65 = .ok (.getfield 31, 3) := by decide +kernel
theorem d_VF_openLines_68 : decode b_VF_openLines 68 = .ok (.iload_n 1, 1) := by decide +kernel
theorem d_VF_openLines_69 : decode b_VF_openLines 69 = .ok (.aaload, 1) := by decide +kernel
theorem d_VF_openLines_70 : decode b_VF_openLines 70 = .ok (.iload_n 2, 1) := by decide +kernel
theorem d_VF_openLines_71 : decode b_VF_openLines 71 = .ok (.putfield 198, 3) := by decide +kernel
theorem d_VF_openLines_74 : decode b_VF_openLines 74 = .ok (.iinc 1 1, 3) := by decide +kernel
theorem d_VF_openLines_77 : decode b_VF_openLines 77 = .ok (.goto (-75), 3) := by decide +kernel
theorem d_VF_openLines_80 : decode b_VF_openLines 80 = .ok (.return_, 1) := by decide +kernel
theorem d_VF_contains_0 : decode b_VF_contains 0 = .ok (.iload_n 0, 1) := by decide +kernel
theorem d_VF_contains_1 : decode b_VF_contains 1 = .ok (.iload_n 1, 1) := by decide +kernel
theorem d_VF_contains_2 : decode b_VF_contains 2 = .ok (.ishr, 1) := by decide +kernel
theorem d_VF_contains_3 : decode b_VF_contains 3 = .ok (.iconst 1, 1) := by decide +kernel
theorem d_VF_contains_4 : decode b_VF_contains 4 = .ok (.iand, 1) := by decide +kernel
theorem d_VF_contains_5 : decode b_VF_contains 5 = .ok (.ifCond .eq 7, 3) := by decide +kernel
theorem d_VF_contains_8 : decode b_VF_contains 8 = .ok (.iconst 1, 1) := by decide +kernel
theorem d_VF_contains_9 : decode b_VF_contains 9 = .ok (.goto 4, 3) := by decide +kernel
theorem d_VF_contains_12 : decode b_VF_contains 12 = .ok (.iconst 0, 1) := by decide +kernel
theorem d_VF_contains_13 : decode b_VF_contains 13 = .ok (.ireturn, 1) := by decide +kernel
theorem d_JI_bitCount_0 : decode b_JI_bitCount 0 = .ok (.iload_n 0, 1) := by decide +kernel
theorem d_JI_bitCount_1 : decode b_JI_bitCount 1 = .ok (.iload_n 0, 1) := by decide +kernel
theorem d_JI_bitCount_2 : decode b_JI_bitCount 2 = .ok (.iconst 1, 1) := by decide +kernel
theorem d_JI_bitCount_3 : decode b_JI_bitCount 3 = .ok (.iushr, 1) := by decide +kernel
theorem d_JI_bitCount_4 : decode b_JI_bitCount 4 = .ok (.ldc_w 265, 3) := by decide +kernel
theorem d_JI_bitCount_7 : decode b_JI_bitCount 7 = .ok (.iand, 1) := by decide +kernel
theorem d_JI_bitCount_8 : decode b_JI_bitCount 8 = .ok (.isub, 1) := by decide +kernel
theorem d_JI_bitCount_9 : decode b_JI_bitCount 9 = .ok (.istore_n 0, 1) := by decide +kernel
theorem d_JI_bitCount_10 : decode b_JI_bitCount 10 = .ok (.iload_n 0, 1) := by decide +kernel
theorem d_JI_bitCount_11 : decode b_JI_bitCount 11 = .ok (.ldc_w 266, 3) := by decide +kernel
theorem d_JI_bitCount_14 : decode b_JI_bitCount 14 = .ok (.iand, 1) := by decide +kernel
theorem d_JI_bitCount_15 : decode b_JI_bitCount 15 = .ok (.iload_n 0, 1) := by decide +kernel
theorem d_JI_bitCount_16 : decode b_JI_bitCount 16 = .ok (.iconst 2, 1) := by decide +kernel
theorem d_JI_bitCount_17 : decode b_JI_bitCount 17 = .ok (.iushr, 1) := by decide +kernel
theorem d_JI_bitCount_18 : decode b_JI_bitCount 18 = .ok (.ldc_w 266, 3) := by decide +kernel
theorem d_JI_bitCount_21 : decode b_JI_bitCount 21 = .ok (.iand, 1) := by decide +kernel
theorem d_JI_bitCount_22 : decode b_JI_bitCount 22 = .ok (.iadd, 1) := by decide +kernel
theorem d_JI_bitCount_23 : decode b_JI_bitCount 23 = .ok (.istore_n 0, 1) := by decide +kernel
theorem d_JI_bitCount_24 : decode b_JI_bitCount 24 = .ok (.iload_n 0, 1) := by decide +kernel
theorem d_JI_bitCount_25 : decode b_JI_bitCount 25 = .ok (.iload_n 0, 1) := by decide +kernel
theorem d_JI_bitCount_26 : decode b_JI_bitCount 26 = .ok (.iconst 4, 1) := by decide +kernel
theorem d_JI_bitCount_27 : decode b_JI_bitCount 27 = .ok (.iushr, 1) := by decide +kernel
theorem d_JI_bitCount_28 : decode b_JI_bitCount 28 = .ok (.iadd, 1) := by decide +kernel
theorem d_JI_bitCount_29 : decode b_JI_bitCount 29 = .ok (.ldc_w 267, 3) := by decide +kernel
theorem d_JI_bitCount_32 : decode b_JI_bitCount 32 = .ok (.iand, 1) := by decide +kernel
theorem d_JI_bitCount_33 : decode b_JI_bitCount 33 = .ok (.istore_n 0, 1) := by decide +kernel
theorem d_JI_bitCount_34 : decode b_JI_bitCount 34 = .ok (.iload_n 0, 1) := by decide +kernel
theorem d_JI_bitCount_35 : decode b_JI_bitCount 35 = .ok (.iload_n 0, 1) := by decide +kernel
theorem d_JI_bitCount_36 : decode b_JI_bitCount 36 = .ok (.bipush 8, 2) := by decide +kernel
theorem d_JI_bitCount_38 : decode b_JI_bitCount 38 = .ok (.iushr, 1) := by decide +kernel
theorem d_JI_bitCount_39 : decode b_JI_bitCount 39 = .ok (.iadd, 1) := by decide +kernel
theorem d_JI_bitCount_40 : decode b_JI_bitCount 40 = .ok (.istore_n 0, 1) := by decide +kernel
theorem d_JI_bitCount_41 : decode b_JI_bitCount 41 = .ok (.iload_n 0, 1) := by decide +kernel
theorem d_JI_bitCount_42 : decode b_JI_bitCount 42 = .ok (.iload_n 0, 1) := by decide +kernel
theorem d_JI_bitCount_43 : decode b_JI_bitCount 43 = .ok (.bipush 16, 2) := by decide +kernel
theorem d_JI_bitCount_45 : decode b_JI_bitCount 45 = .ok (.iushr, 1) := by decide +kernel
theorem d_JI_bitCount_46 : decode b_JI_bitCount 46 = .ok (.iadd, 1) := by decide +kernel
theorem d_JI_bitCount_47 : decode b_JI_bitCount 47 = .ok (.istore_n 0, 1) := by decide +kernel
theorem d_JI_bitCount_48 : decode b_JI_bitCount 48 = .ok (.iload_n 0, 1) := by decide +kernel
theorem d_JI_bitCount_49 : decode b_JI_bitCount 49 = .ok (.bipush 63, 2) := by decide +kernel
theorem d_JI_bitCount_51 : decode b_JI_bitCount 51 = .ok (.iand, 1) := by decide +kernel
theorem d_JI_bitCount_52 : decode b_JI_bitCount 52 = .ok (.ireturn, 1) := by decide +kernel
theorem d_VF_agreeOnSensors_0 : decode b_VF_agreeOnSensors 0 = .ok (.iconst 0, 1) := by decide +kernel
theorem d_VF_agreeOnSensors_1 : decode b_VF_agreeOnSensors 1 = .ok (.istore_n 1, 1) := by decide +kernel
theorem d_VF_agreeOnSensors_2 : decode b_VF_agreeOnSensors 2 = .ok (.iload_n 1, 1) := by decide +kernel
theorem d_VF_agreeOnSensors_3 : decode b_VF_agreeOnSensors 3 = .ok (.aload_n 0, 1) := by decide +kernel
theorem d_VF_agreeOnSensors_4 : decode b_VF_agreeOnSensors 4 = .ok (.getfield 13, 3) := by decide +kernel
theorem d_VF_agreeOnSensors_7 : decode b_VF_agreeOnSensors 7 = .ok (.if_icmp .ge 71, 3) := by decide +kernel
theorem d_VF_agreeOnSensors_10 : decode b_VF_agreeOnSensors 10 = .ok (.aload_n 0, 1) := by decide +kernel
theorem d_VF_agreeOnSensors_11 : decode b_VF_agreeOnSensors 11 = .ok (.getfield 40, 3) := by decide +kernel
theorem d_VF_agreeOnSensors_14 : decode b_VF_agreeOnSensors 14 = .ok (.iload_n 1, 1) := by decide +kernel
theorem d_VF_agreeOnSensors_15 : decode b_VF_agreeOnSensors 15 = .ok (.aload_n 0, 1) := by decide +kernel
theorem d_VF_agreeOnSensors_16 : decode b_VF_agreeOnSensors 16 = .ok (.getfield 31, 3) := by decide +kernel
theorem d_VF_agreeOnSensors_19 : decode b_VF_agreeOnSensors 19 = .ok (.iload_n 1, 1) := by decide +kernel
theorem d_VF_agreeOnSensors_20 : decode b_VF_agreeOnSensors 20 = .ok (.aaload, 1) := by decide +kernel
theorem d_VF_agreeOnSensors_21 : decode b_VF_agreeOnSensors 21 = .ok (.getfield 94, 3) := by decide +kernel
theorem d_VF_agreeOnSensors_24 : decode b_VF_agreeOnSensors 24 = .ok (.invokevirtual 201, 3) := by decide +kernel
theorem d_VF_agreeOnSensors_27 : decode b_VF_agreeOnSensors 27 = .ok (.iconst 0, 1) := by decide +kernel
theorem d_VF_agreeOnSensors_28 : decode b_VF_agreeOnSensors 28 = .ok (.istore_n 2, 1) := by decide +kernel
theorem d_VF_agreeOnSensors_29 : decode b_VF_agreeOnSensors 29 = .ok (.iload_n 2, 1) := by decide +kernel
theorem d_VF_agreeOnSensors_30 : decode b_VF_agreeOnSensors 30 = .ok (.aload_n 0, 1) := by decide +kernel
theorem d_VF_agreeOnSensors_31 : decode b_VF_agreeOnSensors 31 = .ok (.getfield 13, 3) := by decide +kernel
theorem d_VF_agreeOnSensors_34 : decode b_VF_agreeOnSensors 34 = .ok (.if_icmp .ge 28, 3) := by decide +kernel
theorem d_VF_agreeOnSensors_37 : decode b_VF_agreeOnSensors 37 = .ok (.aload_n 0, 1) := by decide +kernel
theorem d_VF_agreeOnSensors_38 : decode b_VF_agreeOnSensors 38 = .ok (.getfield 31, 3) := by decide +kernel
theorem d_VF_agreeOnSensors_41 : decode b_VF_agreeOnSensors 41 = .ok (.iload_n 2, 1) := by decide +kernel
theorem d_VF_agreeOnSensors_42 : decode b_VF_agreeOnSensors 42 = .ok (.aaload, 1) := by decide +kernel
theorem d_VF_agreeOnSensors_43 : decode b_VF_agreeOnSensors 43 = .ok (.getfield 133, 3) := by decide +kernel
theorem d_VF_agreeOnSensors_46 : decode b_VF_agreeOnSensors 46 = .ok (.iload_n 1, 1) := by decide +kernel
theorem d_VF_agreeOnSensors_47 : decode b_VF_agreeOnSensors 47 = .ok (.aload_n 0, 1) := by decide +kernel
theorem d_VF_agreeOnSensors_48 : decode b_VF_agreeOnSensors 48 = .ok (.getfield 40, 3) := by decide +kernel
theorem d_VF_agreeOnSensors_51 : decode b_VF_agreeOnSensors 51 = .ok (.iload_n 2, 1) := by decide +kernel
theorem d_VF_agreeOnSensors_52 : decode b_VF_agreeOnSensors 52 = .ok (.invokevirtual 204, 3) := by decide +kernel
theorem d_VF_agreeOnSensors_55 : decode b_VF_agreeOnSensors 55 = .ok (.iastore, 1) := by decide +kernel
theorem d_VF_agreeOnSensors_56 : decode b_VF_agreeOnSensors 56 = .ok (.iinc 2 1, 3) := by decide +kernel
theorem d_VF_agreeOnSensors_59 : decode b_VF_agreeOnSensors 59 = .ok (.goto (-30), 3) := by decide +kernel
theorem d_VF_agreeOnSensors_62 : decode b_VF_agreeOnSensors 62 = .ok (.aload_n 0, 1) := by decide +kernel
theorem d_VF_agreeOnSensors_63 : decode b_VF_agreeOnSensors 63 = .ok (.getfield 31, 3) := by decide +kernel
theorem d_VF_agreeOnSensors_66 : decode b_VF_agreeOnSensors 66 = .ok (.iload_n 1, 1) := by decide +kernel
theorem d_VF_agreeOnSensors_67 : decode b_VF_agreeOnSensors 67 = .ok (.aaload, 1) := by decide +kernel
theorem d_VF_agreeOnSensors_68 : decode b_VF_agreeOnSensors 68 = .ok (.iconst 0, 1) := by decide +kernel
theorem d_VF_agreeOnSensors_69 : decode b_VF_agreeOnSensors 69 = .ok (.putfield 149, 3) := by decide +kernel
theorem d_VF_agreeOnSensors_72 : decode b_VF_agreeOnSensors 72 = .ok (.iinc 1 1, 3) := by decide +kernel
theorem d_VF_agreeOnSensors_75 : decode b_VF_agreeOnSensors 75 = .ok (.goto (-73), 3) := by decide +kernel
theorem d_VF_agreeOnSensors_78 : decode b_VF_agreeOnSensors 78 = .ok (.return_, 1) := by decide +kernel
theorem d_VF_majorityPlace_0 : decode b_VF_majorityPlace 0 = .ok (.iconst 0, 1) := by decide +kernel
theorem d_VF_majorityPlace_1 : decode b_VF_majorityPlace 1 = .ok (.istore_n 3, 1) := by decide +kernel
theorem d_VF_majorityPlace_2 : decode b_VF_majorityPlace 2 = .ok (.iload_n 3, 1) := by decide +kernel
theorem d_VF_majorityPlace_3 : decode b_VF_majorityPlace 3 = .ok (.iload_n 1, 1) := by decide +kernel
theorem d_VF_majorityPlace_4 : decode b_VF_majorityPlace 4 = .ok (.if_icmp .ge 50, 3) := by decide +kernel
theorem d_VF_majorityPlace_7 : decode b_VF_majorityPlace 7 = .ok (.iconst 0, 1) := by decide +kernel
theorem d_VF_majorityPlace_8 : decode b_VF_majorityPlace 8 = .ok (.istore 4, 2) := by decide +kernel
theorem d_VF_majorityPlace_10 : decode b_VF_majorityPlace 10 = .ok (.iload_n 3, 1) := by decide +kernel
theorem d_VF_majorityPlace_11 : decode b_VF_majorityPlace 11 = .ok (.istore 5, 2) := by decide +kernel
theorem d_VF_majorityPlace_13 : decode b_VF_majorityPlace 13 = .ok (.iload 5, 2) := by decide +kernel
theorem d_VF_majorityPlace_15 : decode b_VF_majorityPlace 15 = .ok (.iload_n 1, 1) := by decide +kernel
theorem d_VF_majorityPlace_16 : decode b_VF_majorityPlace 16 = .ok (.if_icmp .ge 22, 3) := by decide +kernel
theorem d_VF_majorityPlace_19 : decode b_VF_majorityPlace 19 = .ok (.aload_n 0, 1) := by decide +kernel
theorem d_VF_majorityPlace_20 : decode b_VF_majorityPlace 20 = .ok (.iload 5, 2) := by decide +kernel
theorem d_VF_majorityPlace_22 : decode b_VF_majorityPlace 22 = .ok (.iaload, 1) := by decide +kernel
theorem d_VF_majorityPlace_23 : decode b_VF_majorityPlace 23 = .ok (.aload_n 0, 1) := by decide +kernel
theorem d_VF_majorityPlace_24 : decode b_VF_majorityPlace 24 = .ok (.iload_n 3, 1) := by decide +kernel
theorem d_VF_majorityPlace_25 : decode b_VF_majorityPlace 25 = .ok (.iaload, 1) := by decide +kernel
theorem d_VF_majorityPlace_26 : decode b_VF_majorityPlace 26 = .ok (.if_icmp .ne 6, 3) := by decide +kernel
theorem d_VF_majorityPlace_29 : decode b_VF_majorityPlace 29 = .ok (.iinc 4 1, 3) := by decide +kernel
theorem d_VF_majorityPlace_32 : decode b_VF_majorityPlace 32 = .ok (.iinc 5 1, 3) := by decide +kernel
theorem d_VF_majorityPlace_35 : decode b_VF_majorityPlace 35 = .ok (.goto (-22), 3) := by decide +kernel
theorem d_VF_majorityPlace_38 : decode b_VF_majorityPlace 38 = .ok (.iconst 2, 1) := by decide +kernel
theorem d_VF_majorityPlace_39 : decode b_VF_majorityPlace 39 = .ok (.iload 4, 2) := by decide +kernel
theorem d_VF_majorityPlace_41 : decode b_VF_majorityPlace 41 = .ok (.imul, 1) := by decide +kernel
theorem d_VF_majorityPlace_42 : decode b_VF_majorityPlace 42 = .ok (.iload_n 2, 1) := by decide +kernel
theorem d_VF_majorityPlace_43 : decode b_VF_majorityPlace 43 = .ok (.if_icmp .le 5, 3) := by decide +kernel
theorem d_VF_majorityPlace_46 : decode b_VF_majorityPlace 46 = .ok (.iload_n 3, 1) := by decide +kernel
theorem d_VF_majorityPlace_47 : decode b_VF_majorityPlace 47 = .ok (.ireturn, 1) := by decide +kernel
theorem d_VF_majorityPlace_48 : decode b_VF_majorityPlace 48 = .ok (.iinc 3 1, 3) := by decide +kernel
theorem d_VF_majorityPlace_51 : decode b_VF_majorityPlace 51 = .ok (.goto (-49), 3) := by decide +kernel
theorem d_VF_majorityPlace_54 : decode b_VF_majorityPlace 54 = .ok (.iconst (-1), 1) := by decide +kernel
theorem d_VF_majorityPlace_55 : decode b_VF_majorityPlace 55 = .ok (.ireturn, 1) := by decide +kernel
theorem d_VF_runDueTasks_0 : decode b_VF_runDueTasks 0 = .ok (.aload_n 0, 1) := by decide +kernel
theorem d_VF_runDueTasks_1 : decode b_VF_runDueTasks 1 = .ok (.invokevirtual 152, 3) := by decide +kernel
theorem d_VF_runDueTasks_4 : decode b_VF_runDueTasks 4 = .ok (.istore_n 1, 1) := by decide +kernel
theorem d_VF_runDueTasks_5 : decode b_VF_runDueTasks 5 = .ok (.iload_n 1, 1) := by decide +kernel
theorem d_VF_runDueTasks_6 : decode b_VF_runDueTasks 6 = .ok (.ifCond .ge 10, 3) := by decide +kernel
theorem d_VF_runDueTasks_9 : decode b_VF_runDueTasks 9 = .ok (.aload_n 0, 1) := by decide +kernel
theorem d_VF_runDueTasks_10 : decode b_VF_runDueTasks 10 = .ok (.getfield 63, 3) := by decide +kernel
theorem d_VF_runDueTasks_13 : decode b_VF_runDueTasks 13 = .ok (.goto 12, 3) := by decide +kernel
theorem d_VF_runDueTasks_16 : decode b_VF_runDueTasks 16 = .ok (.aload_n 0, 1) := by decide +kernel
theorem d_VF_runDueTasks_17 : decode b_VF_runDueTasks 17 = .ok (.getfield 31, 3) := by decide +kernel
theorem d_VF_runDueTasks_20 : decode b_VF_runDueTasks 20 = .ok (.iload_n 1, 1) := by decide +kernel
theorem d_VF_runDueTasks_21 : decode b_VF_runDueTasks 21 = .ok (.aaload, 1) := by decide +kernel
theorem d_VF_runDueTasks_22 : decode b_VF_runDueTasks 22 = .ok (.getfield 133, 3) := by decide +kernel
theorem d_VF_runDueTasks_25 : decode b_VF_runDueTasks 25 = .ok (.astore_n 2, 1) := by decide +kernel
theorem d_VF_runDueTasks_26 : decode b_VF_runDueTasks 26 = .ok (.iconst 0, 1) := by decide +kernel
theorem d_VF_runDueTasks_27 : decode b_VF_runDueTasks 27 = .ok (.istore_n 3, 1) := by decide +kernel
theorem d_VF_runDueTasks_28 : decode b_VF_runDueTasks 28 = .ok (.iload_n 3, 1) := by decide +kernel
theorem d_VF_runDueTasks_29 : decode b_VF_runDueTasks 29 = .ok (.iconst 4, 1) := by decide +kernel
theorem d_VF_runDueTasks_30 : decode b_VF_runDueTasks 30 = .ok (.if_icmp .ge 54, 3) := by decide +kernel
theorem d_VF_runDueTasks_33 : decode b_VF_runDueTasks 33 = .ok (.aload_n 0, 1) := by decide +kernel
theorem d_VF_runDueTasks_34 : decode b_VF_runDueTasks 34 = .ok (.getfield 48, 3) := by decide +kernel
theorem d_VF_runDueTasks_37 : decode b_VF_runDueTasks 37 = .ok (.iload_n 3, 1) := by decide +kernel
theorem d_VF_runDueTasks_38 : decode b_VF_runDueTasks 38 = .ok (.aaload, 1) := by decide +kernel
theorem d_VF_runDueTasks_39 : decode b_VF_runDueTasks 39 = .ok (.aload_n 0, 1) := by decide +kernel
theorem d_VF_runDueTasks_40 : decode b_VF_runDueTasks 40 = .ok (.getfield 127, 3) := by decide +kernel
theorem d_VF_runDueTasks_43 : decode b_VF_runDueTasks 43 = .ok (.invokevirtual 207, 3) := by decide +kernel
theorem d_VF_runDueTasks_46 : decode b_VF_runDueTasks 46 = .ok (.ifCond .eq 32, 3) := by decide +kernel
theorem d_VF_runDueTasks_49 : decode b_VF_runDueTasks 49 = .ok (.aload_n 0, 1) := by decide +kernel
theorem d_VF_runDueTasks_50 : decode b_VF_runDueTasks 50 = .ok (.iload_n 3, 1) := by decide +kernel
theorem d_VF_runDueTasks_51 : decode b_VF_runDueTasks 51 = .ok (.invokevirtual 210, 3) := by decide +kernel
theorem d_VF_runDueTasks_54 : decode b_VF_runDueTasks 54 = .ok (.aload_n 0, 1) := by decide +kernel
theorem d_VF_runDueTasks_55 : decode b_VF_runDueTasks 55 = .ok (.getfield 59, 3) := by decide +kernel
theorem d_VF_runDueTasks_58 : decode b_VF_runDueTasks 58 = .ok (.iload_n 3, 1) := by decide +kernel
theorem d_VF_runDueTasks_59 : decode b_VF_runDueTasks 59 = .ok (.aload_n 0, 1) := by decide +kernel
theorem d_VF_runDueTasks_60 : decode b_VF_runDueTasks 60 = .ok (.getfield 55, 3) := by decide +kernel
theorem d_VF_runDueTasks_63 : decode b_VF_runDueTasks 63 = .ok (.aload_n 0, 1) := by decide +kernel
theorem d_VF_runDueTasks_64 : decode b_VF_runDueTasks 64 = .ok (.getfield 48, 3) := by decide +kernel
theorem d_VF_runDueTasks_67 : decode b_VF_runDueTasks 67 = .ok (.iload_n 3, 1) := by decide +kernel
theorem d_VF_runDueTasks_68 : decode b_VF_runDueTasks 68 = .ok (.aaload, 1) := by decide +kernel
theorem d_VF_runDueTasks_69 : decode b_VF_runDueTasks 69 = .ok (.aload_n 2, 1) := by decide +kernel
theorem d_VF_runDueTasks_70 : decode b_VF_runDueTasks 70 = .ok (.aload_n 0, 1) := by decide +kernel
theorem d_VF_runDueTasks_71 : decode b_VF_runDueTasks 71 = .ok (.getfield 59, 3) := by decide +kernel
theorem d_VF_runDueTasks_74 : decode b_VF_runDueTasks 74 = .ok (.invokevirtual 213, 3) := by decide +kernel
theorem d_VF_runDueTasks_77 : decode b_VF_runDueTasks 77 = .ok (.iastore, 1) := by decide +kernel
theorem d_VF_runDueTasks_78 : decode b_VF_runDueTasks 78 = .ok (.iinc 3 1, 3) := by decide +kernel
theorem d_VF_runDueTasks_81 : decode b_VF_runDueTasks 81 = .ok (.goto (-53), 3) := by decide +kernel
theorem d_VF_runDueTasks_84 : decode b_VF_runDueTasks 84 = .ok (.return_, 1) := by decide +kernel
theorem d_VF_leastCorrect_0 : decode b_VF_leastCorrect 0 = .ok (.iconst 0, 1) := by decide +kernel
theorem d_VF_leastCorrect_1 : decode b_VF_leastCorrect 1 = .ok (.istore_n 1, 1) := by decide +kernel
theorem d_VF_leastCorrect_2 : decode b_VF_leastCorrect 2 = .ok (.iload_n 1, 1) := by decide +kernel
theorem d_VF_leastCorrect_3 : decode b_VF_leastCorrect 3 = .ok (.aload_n 0, 1) := by decide +kernel
theorem d_VF_leastCorrect_4 : decode b_VF_leastCorrect 4 = .ok (.getfield 13, 3) := by decide +kernel
theorem d_VF_leastCorrect_7 : decode b_VF_leastCorrect 7 = .ok (.if_icmp .ge 23, 3) := by decide +kernel
theorem d_VF_leastCorrect_10 : decode b_VF_leastCorrect 10 = .ok (.aload_n 0, 1) := by decide +kernel
theorem d_VF_leastCorrect_11 : decode b_VF_leastCorrect 11 = .ok (.getfield 31, 3) := by decide +kernel
theorem d_VF_leastCorrect_14 : decode b_VF_leastCorrect 14 = .ok (.iload_n 1, 1) := by decide +kernel
theorem d_VF_leastCorrect_15 : decode b_VF_leastCorrect 15 = .ok (.aaload, 1) := by decide +kernel
theorem d_VF_leastCorrect_16 : decode b_VF_leastCorrect 16 = .ok (.getfield 97, 3) := by decide +kernel
theorem d_VF_leastCorrect_19 : decode b_VF_leastCorrect 19 = .ok (.ifCond .ne 5, 3) := by decide +kernel
theorem d_VF_leastCorrect_22 : decode b_VF_leastCorrect 22 = .ok (.iload_n 1, 1) := by decide +kernel
theorem d_VF_leastCorrect_23 : decode b_VF_leastCorrect 23 = .ok (.ireturn, 1) := by decide +kernel
theorem d_VF_leastCorrect_24 : decode b_VF_leastCorrect 24 = .ok (.iinc 1 1, 3) := by decide +kernel
theorem d_VF_leastCorrect_27 : decode b_VF_leastCorrect 27 = .ok (.goto (-25), 3) := by decide +kernel
theorem d_VF_leastCorrect_30 : decode b_VF_leastCorrect 30 = .ok (.iconst (-1), 1) := by decide +kernel
theorem d_VF_leastCorrect_31 : decode b_VF_leastCorrect 31 = .ok (.ireturn, 1) := by decide +kernel
theorem d_VF_runOnAllNodes_0 : decode b_VF_runOnAllNodes 0 = .ok (.iconst 0, 1) := by decide +kernel
theorem d_VF_runOnAllNodes_1 : decode b_VF_runOnAllNodes 1 = .ok (.istore_n 2, 1) := by decide +kernel
theorem d_VF_runOnAllNodes_2 : decode b_VF_runOnAllNodes 2 = .ok (.iload_n 2, 1) := by decide +kernel
theorem d_VF_runOnAllNodes_3 : decode b_VF_runOnAllNodes 3 = .ok (.aload_n 0, 1) := by decide +kernel
theorem d_VF_runOnAllNodes_4 : decode b_VF_runOnAllNodes 4 = .ok (.getfield 13, 3) := by decide +kernel
theorem d_VF_runOnAllNodes_7 : decode b_VF_runOnAllNodes 7 = .ok (.if_icmp .ge 46, 3) := by decide +kernel
theorem d_VF_runOnAllNodes_10 : decode b_VF_runOnAllNodes 10 = .ok (.aload_n 0, 1) := by decide +kernel
theorem d_VF_runOnAllNodes_11 : decode b_VF_runOnAllNodes 11 = .ok (.getfield 66, 3) := by decide +kernel
theorem d_VF_runOnAllNodes_14 : decode b_VF_runOnAllNodes 14 = .ok (.iload_n 2, 1) := by decide +kernel
theorem d_VF_runOnAllNodes_15 : decode b_VF_runOnAllNodes 15 = .ok (.aload_n 0, 1) := by decide +kernel
theorem d_VF_runOnAllNodes_16 : decode b_VF_runOnAllNodes 16 = .ok (.getfield 55, 3) := by decide +kernel
theorem d_VF_runOnAllNodes_19 : decode b_VF_runOnAllNodes 19 = .ok (.aload_n 0, 1) := by decide +kernel
theorem d_VF_runOnAllNodes_20 : decode b_VF_runOnAllNodes 20 = .ok (.getfield 48, 3) := by decide +kernel
theorem d_VF_runOnAllNodes_23 : decode b_VF_runOnAllNodes 23 = .ok (.iload_n 1, 1) := by decide +kernel
theorem d_VF_runOnAllNodes_24 : decode b_VF_runOnAllNodes 24 = .ok (.aaload, 1) := by decide +kernel
theorem d_VF_runOnAllNodes_25 : decode b_VF_runOnAllNodes 25 = .ok (.aload_n 0, 1) := by decide +kernel
theorem d_VF_runOnAllNodes_26 : decode b_VF_runOnAllNodes 26 = .ok (.getfield 31, 3) := by decide +kernel
theorem d_VF_runOnAllNodes_29 : decode b_VF_runOnAllNodes 29 = .ok (.iload_n 2, 1) := by decide +kernel
theorem d_VF_runOnAllNodes_30 : decode b_VF_runOnAllNodes 30 = .ok (.aaload, 1) := by decide +kernel
theorem d_VF_runOnAllNodes_31 : decode b_VF_runOnAllNodes 31 = .ok (.getfield 133, 3) := by decide +kernel
theorem d_VF_runOnAllNodes_34 : decode b_VF_runOnAllNodes 34 = .ok (.aload_n 0, 1) := by decide +kernel
theorem d_VF_runOnAllNodes_35 : decode b_VF_runOnAllNodes 35 = .ok (.getfield 31, 3) := by decide +kernel
theorem d_VF_runOnAllNodes_38 : decode b_VF_runOnAllNodes 38 = .ok (.iload_n 2, 1) := by decide +kernel
theorem d_VF_runOnAllNodes_39 : decode b_VF_runOnAllNodes 39 = .ok (.aaload, 1) := by decide +kernel
theorem d_VF_runOnAllNodes_40 : decode b_VF_runOnAllNodes 40 = .ok (.getfield 139, 3) := by decide +kernel
theorem d_VF_runOnAllNodes_43 : decode b_VF_runOnAllNodes 43 = .ok (.invokevirtual 213, 3) := by decide +kernel
theorem d_VF_runOnAllNodes_46 : decode b_VF_runOnAllNodes 46 = .ok (.iastore, 1) := by decide +kernel
theorem d_VF_runOnAllNodes_47 : decode b_VF_runOnAllNodes 47 = .ok (.iinc 2 1, 3) := by decide +kernel
theorem d_VF_runOnAllNodes_50 : decode b_VF_runOnAllNodes 50 = .ok (.goto (-48), 3) := by decide +kernel
theorem d_VF_runOnAllNodes_53 : decode b_VF_runOnAllNodes 53 = .ok (.iconst 0, 1) := by decide +kernel
theorem d_VF_runOnAllNodes_54 : decode b_VF_runOnAllNodes 54 = .ok (.istore_n 2, 1) := by decide +kernel
theorem d_VF_runOnAllNodes_55 : decode b_VF_runOnAllNodes 55 = .ok (.iload_n 2, 1) := by decide +kernel
theorem d_VF_runOnAllNodes_56 : decode b_VF_runOnAllNodes 56 = .ok (.aload_n 0, 1) := by decide +kernel
theorem d_VF_runOnAllNodes_57 : decode b_VF_runOnAllNodes 57 = .ok (.getfield 13, 3) := by decide +kernel
theorem d_VF_runOnAllNodes_60 : decode b_VF_runOnAllNodes 60 = .ok (.if_icmp .ge 20, 3) := by decide +kernel
theorem d_VF_runOnAllNodes_63 : decode b_VF_runOnAllNodes 63 = .ok (.aload_n 0, 1) := by decide +kernel
theorem d_VF_runOnAllNodes_64 : decode b_VF_runOnAllNodes 64 = .ok (.aload_n 0, 1) := by decide +kernel
theorem d_VF_runOnAllNodes_65 : decode b_VF_runOnAllNodes 65 = .ok (.getfield 31, 3) := by decide +kernel
theorem d_VF_runOnAllNodes_68 : decode b_VF_runOnAllNodes 68 = .ok (.iload_n 2, 1) := by decide +kernel
theorem d_VF_runOnAllNodes_69 : decode b_VF_runOnAllNodes 69 = .ok (.aaload, 1) := by decide +kernel
theorem d_VF_runOnAllNodes_70 : decode b_VF_runOnAllNodes 70 = .ok (.iload_n 1, 1) := by decide +kernel
theorem d_VF_runOnAllNodes_71 : decode b_VF_runOnAllNodes 71 = .ok (.invokevirtual 217, 3) := by decide +kernel
theorem d_VF_runOnAllNodes_74 : decode b_VF_runOnAllNodes 74 = .ok (.iinc 2 1, 3) := by decide +kernel
theorem d_VF_runOnAllNodes_77 : decode b_VF_runOnAllNodes 77 = .ok (.goto (-22), 3) := by decide +kernel
theorem d_VF_runOnAllNodes_80 : decode b_VF_runOnAllNodes 80 = .ok (.return_, 1) := by decide +kernel
theorem d_JM_floorDiv_0 : decode b_JM_floorDiv 0 = .ok (.iload_n 0, 1) := by decide +kernel
theorem d_JM_floorDiv_1 : decode b_JM_floorDiv 1 = .ok (.iload_n 1, 1) := by decide +kernel
theorem d_JM_floorDiv_2 : decode b_JM_floorDiv 2 = .ok (.idiv, 1) := by decide +kernel
theorem d_JM_floorDiv_3 : decode b_JM_floorDiv 3 = .ok (.istore_n 2, 1) := by decide +kernel
theorem d_JM_floorDiv_4 : decode b_JM_floorDiv 4 = .ok (.iload_n 0, 1) := by decide +kernel
theorem d_JM_floorDiv_5 : decode b_JM_floorDiv 5 = .ok (.iload_n 1, 1) := by decide +kernel
theorem d_JM_floorDiv_6 : decode b_JM_floorDiv 6 = .ok (.ixor, 1) := by decide +kernel
theorem d_JM_floorDiv_7 : decode b_JM_floorDiv 7 = .ok (.ifCond .ge 14, 3) := by decide +kernel
theorem d_JM_floorDiv_10 : decode b_JM_floorDiv 10 = .ok (.iload_n 2, 1) := by decide +kernel
theorem d_JM_floorDiv_11 : decode b_JM_floorDiv 11 = .ok (.iload_n 1, 1) := by decide +kernel
theorem d_JM_floorDiv_12 : decode b_JM_floorDiv 12 = .ok (.imul, 1) := by decide +kernel
theorem d_JM_floorDiv_13 : decode b_JM_floorDiv 13 = .ok (.iload_n 0, 1) := by decide +kernel
theorem d_JM_floorDiv_14 : decode b_JM_floorDiv 14 = .ok (.if_icmp .eq 7, 3) := by decide +kernel
theorem d_JM_floorDiv_17 : decode b_JM_floorDiv 17 = .ok (.iload_n 2, 1) := by decide +kernel
theorem d_JM_floorDiv_18 : decode b_JM_floorDiv 18 = .ok (.iconst 1, 1) := by decide +kernel
theorem d_JM_floorDiv_19 : decode b_JM_floorDiv 19 = .ok (.isub, 1) := by decide +kernel
theorem d_JM_floorDiv_20 : decode b_JM_floorDiv 20 = .ok (.ireturn, 1) := by decide +kernel
theorem d_JM_floorDiv_21 : decode b_JM_floorDiv 21 = .ok (.iload_n 2, 1) := by decide +kernel
theorem d_JM_floorDiv_22 : decode b_JM_floorDiv 22 = .ok (.ireturn, 1) := by decide +kernel
theorem d_VF_vote_0 : decode b_VF_vote 0 = .ok (.aload_n 0, 1) := by decide +kernel
theorem d_VF_vote_1 : decode b_VF_vote 1 = .ok (.aload_n 1, 1) := by decide +kernel
theorem d_VF_vote_2 : decode b_VF_vote 2 = .ok (.invokevirtual 221, 3) := by decide +kernel
theorem d_VF_vote_5 : decode b_VF_vote 5 = .ok (.istore_n 3, 1) := by decide +kernel
theorem d_VF_vote_6 : decode b_VF_vote 6 = .ok (.aload_n 0, 1) := by decide +kernel
theorem d_VF_vote_7 : decode b_VF_vote 7 = .ok (.getfield 69, 3) := by decide +kernel
theorem d_VF_vote_10 : decode b_VF_vote 10 = .ok (.iload_n 3, 1) := by decide +kernel
theorem d_VF_vote_11 : decode b_VF_vote 11 = .ok (.aload_n 1, 1) := by decide +kernel
theorem d_VF_vote_12 : decode b_VF_vote 12 = .ok (.invokevirtual 225, 3) := by decide +kernel
theorem d_VF_vote_15 : decode b_VF_vote 15 = .ok (.invokestatic 228, 3) := by decide +kernel
theorem d_VF_vote_18 : decode b_VF_vote 18 = .ok (.istore 4, 2) := by decide +kernel
theorem d_VF_vote_20 : decode b_VF_vote 20 = .ok (.iload 4, 2) := by decide +kernel
theorem d_VF_vote_22 : decode b_VF_vote 22 = .ok (.ifCond .ge 11, 3) := by decide +kernel
theorem d_VF_vote_25 : decode b_VF_vote 25 = .ok (.aload_n 1, 1) := by decide +kernel
theorem d_VF_vote_26 : decode b_VF_vote 26 = .ok (.getfield 139, 3) := by decide +kernel
theorem d_VF_vote_29 : decode b_VF_vote 29 = .ok (.iload_n 2, 1) := by decide +kernel
theorem d_VF_vote_30 : decode b_VF_vote 30 = .ok (.iconst 0, 1) := by decide +kernel
theorem d_VF_vote_31 : decode b_VF_vote 31 = .ok (.iastore, 1) := by decide +kernel
theorem d_VF_vote_32 : decode b_VF_vote 32 = .ok (.return_, 1) := by decide +kernel
theorem d_VF_vote_33 : decode b_VF_vote 33 = .ok (.aload_n 1, 1) := by decide +kernel
theorem d_VF_vote_34 : decode b_VF_vote 34 = .ok (.getfield 139, 3) := by decide +kernel
theorem d_VF_vote_37 : decode b_VF_vote 37 = .ok (.iload_n 2, 1) := by decide +kernel
theorem d_VF_vote_38 : decode b_VF_vote 38 = .ok (.aload_n 0, 1) := by decide +kernel
theorem d_VF_vote_39 : decode b_VF_vote 39 = .ok (.getfield 69, 3) := by decide +kernel
theorem d_VF_vote_42 : decode b_VF_vote 42 = .ok (.iload 4, 2) := by decide +kernel
theorem d_VF_vote_44 : decode b_VF_vote 44 = .ok (.iaload, 1) := by decide +kernel
theorem d_VF_vote_45 : decode b_VF_vote 45 = .ok (.iastore, 1) := by decide +kernel
theorem d_VF_vote_46 : decode b_VF_vote 46 = .ok (.aload_n 1, 1) := by decide +kernel
theorem d_VF_vote_47 : decode b_VF_vote 47 = .ok (.dup, 1) := by decide +kernel
theorem d_VF_vote_48 : decode b_VF_vote 48 = .ok (.getfield 149, 3) := by decide +kernel
theorem d_VF_vote_51 : decode b_VF_vote 51 = .ok (.aload_n 0, 1) := by decide +kernel
theorem d_VF_vote_52 : decode b_VF_vote 52 = .ok (.aload_n 0, 1) := by decide +kernel
theorem d_VF_vote_53 : decode b_VF_vote 53 = .ok (.getfield 69, 3) := by decide +kernel
theorem d_VF_vote_56 : decode b_VF_vote 56 = .ok (.iload 4, 2) := by decide +kernel
theorem d_VF_vote_58 : decode b_VF_vote 58 = .ok (.iaload, 1) := by decide +kernel
theorem d_VF_vote_59 : decode b_VF_vote 59 = .ok (.aload_n 1, 1) := by decide +kernel
theorem d_VF_vote_60 : decode b_VF_vote 60 = .ok (.invokevirtual 232, 3) := by decide +kernel
theorem d_VF_vote_63 : decode b_VF_vote 63 = .ok (.ior, 1) := by decide +kernel
theorem d_VF_vote_64 : decode b_VF_vote 64 = .ok (.putfield 149, 3) := by decide +kernel
theorem d_VF_vote_67 : decode b_VF_vote 67 = .ok (.return_, 1) := by decide +kernel
theorem d_VF_fillBallot_0 : decode b_VF_fillBallot 0 = .ok (.aload_n 0, 1) := by decide +kernel
theorem d_VF_fillBallot_1 : decode b_VF_fillBallot 1 = .ok (.getfield 69, 3) := by decide +kernel
theorem d_VF_fillBallot_4 : decode b_VF_fillBallot 4 = .ok (.iconst 0, 1) := by decide +kernel
theorem d_VF_fillBallot_5 : decode b_VF_fillBallot 5 = .ok (.aload_n 0, 1) := by decide +kernel
theorem d_VF_fillBallot_6 : decode b_VF_fillBallot 6 = .ok (.getfield 66, 3) := by decide +kernel
theorem d_VF_fillBallot_9 : decode b_VF_fillBallot 9 = .ok (.aload_n 1, 1) := by decide +kernel
theorem d_VF_fillBallot_10 : decode b_VF_fillBallot 10 = .ok (.getfield 236, 3) := by decide +kernel
theorem d_VF_fillBallot_13 : decode b_VF_fillBallot 13 = .ok (.iaload, 1) := by decide +kernel
theorem d_VF_fillBallot_14 : decode b_VF_fillBallot 14 = .ok (.iastore, 1) := by decide +kernel
theorem d_VF_fillBallot_15 : decode b_VF_fillBallot 15 = .ok (.iconst 1, 1) := by decide +kernel
theorem d_VF_fillBallot_16 : decode b_VF_fillBallot 16 = .ok (.istore_n 2, 1) := by decide +kernel
theorem d_VF_fillBallot_17 : decode b_VF_fillBallot 17 = .ok (.iconst 0, 1) := by decide +kernel
theorem d_VF_fillBallot_18 : decode b_VF_fillBallot 18 = .ok (.istore_n 3, 1) := by decide +kernel
theorem d_VF_fillBallot_19 : decode b_VF_fillBallot 19 = .ok (.iload_n 3, 1) := by decide +kernel
theorem d_VF_fillBallot_20 : decode b_VF_fillBallot 20 = .ok (.aload_n 0, 1) := by decide +kernel
theorem d_VF_fillBallot_21 : decode b_VF_fillBallot 21 = .ok (.getfield 13, 3) := by decide +kernel
theorem d_VF_fillBallot_24 : decode b_VF_fillBallot 24 = .ok (.if_icmp .ge 52, 3) := by decide +kernel
theorem d_VF_fillBallot_27 : decode b_VF_fillBallot 27 = .ok (.aload_n 1, 1) := by decide +kernel
theorem d_VF_fillBallot_28 : decode b_VF_fillBallot 28 = .ok (.getfield 198, 3) := by decide +kernel
theorem d_VF_fillBallot_31 : decode b_VF_fillBallot 31 = .ok (.iload_n 3, 1) := by decide +kernel
theorem d_VF_fillBallot_32 : decode b_VF_fillBallot 32 = .ok (.invokestatic 239, 3) := by decide +kernel
theorem d_VF_fillBallot_35 : decode b_VF_fillBallot 35 = .ok (.ifCond .eq 35, 3) := by decide +kernel
theorem d_VF_fillBallot_38 : decode b_VF_fillBallot 38 = .ok (.aload_n 0, 1) := by decide +kernel
theorem d_VF_fillBallot_39 : decode b_VF_fillBallot 39 = .ok (.getfield 69, 3) := by decide +kernel
theorem d_VF_fillBallot_42 : decode b_VF_fillBallot 42 = .ok (.iload_n 2, 1) := by decide +kernel
theorem d_VF_fillBallot_43 : decode b_VF_fillBallot 43 = .ok (.aload_n 0, 1) := by decide +kernel
theorem d_VF_fillBallot_44 : decode b_VF_fillBallot 44 = .ok (.getfield 31, 3) := by decide +kernel
theorem d_VF_fillBallot_47 : decode b_VF_fillBallot 47 = .ok (.iload_n 3, 1) := by decide +kernel
theorem d_VF_fillBallot_48 : decode b_VF_fillBallot 48 = .ok (.aaload, 1) := by decide +kernel
theorem d_VF_fillBallot_49 : decode b_VF_fillBallot 49 = .ok (.aload_n 0, 1) := by decide +kernel
theorem d_VF_fillBallot_50 : decode b_VF_fillBallot 50 = .ok (.getfield 66, 3) := by decide +kernel
theorem d_VF_fillBallot_53 : decode b_VF_fillBallot 53 = .ok (.iload_n 3, 1) := by decide +kernel
theorem d_VF_fillBallot_54 : decode b_VF_fillBallot 54 = .ok (.iaload, 1) := by decide +kernel
theorem d_VF_fillBallot_55 : decode b_VF_fillBallot 55 = .ok (.aload_n 1, 1) := by decide +kernel
theorem d_VF_fillBallot_56 : decode b_VF_fillBallot 56 = .ok (.getfield 236, 3) := by decide +kernel
theorem d_VF_fillBallot_59 : decode b_VF_fillBallot 59 = .ok (.aload_n 0, 1) := by decide +kernel
theorem d_VF_fillBallot_60 : decode b_VF_fillBallot 60 = .ok (.getfield 127, 3) := by decide +kernel
theorem d_VF_fillBallot_63 : decode b_VF_fillBallot 63 = .ok (.invokevirtual 242, 3) := by decide +kernel
theorem d_VF_fillBallot_66 : decode b_VF_fillBallot 66 = .ok (.iastore, 1) := by decide +kernel
theorem d_VF_fillBallot_67 : decode b_VF_fillBallot 67 = .ok (.iinc 2 1, 3) := by decide +kernel
theorem d_VF_fillBallot_70 : decode b_VF_fillBallot 70 = .ok (.iinc 3 1, 3) := by decide +kernel
theorem d_VF_fillBallot_73 : decode b_VF_fillBallot 73 = .ok (.goto (-54), 3) := by decide +kernel
theorem d_VF_fillBallot_76 : decode b_VF_fillBallot 76 = .ok (.iload_n 2, 1) := by decide +kernel
theorem d_VF_fillBallot_77 : decode b_VF_fillBallot 77 = .ok (.ireturn, 1) := by decide +kernel
theorem d_VF_dissentersFrom_0 : decode b_VF_dissentersFrom 0 = .ok (.aload_n 2, 1) := by decide +kernel
theorem d_VF_dissentersFrom_1 : decode b_VF_dissentersFrom 1 = .ok (.getfield 142, 3) := by decide +kernel
theorem d_VF_dissentersFrom_4 : decode b_VF_dissentersFrom 4 = .ok (.iconst 1, 1) := by decide +kernel
theorem d_VF_dissentersFrom_5 : decode b_VF_dissentersFrom 5 = .ok (.aload_n 2, 1) := by decide +kernel
theorem d_VF_dissentersFrom_6 : decode b_VF_dissentersFrom 6 = .ok (.getfield 236, 3) := by decide +kernel
theorem d_VF_dissentersFrom_9 : decode b_VF_dissentersFrom 9 = .ok (.ishl, 1) := by decide +kernel
theorem d_VF_dissentersFrom_10 : decode b_VF_dissentersFrom 10 = .ok (.iconst (-1), 1) := by decide +kernel
theorem d_VF_dissentersFrom_11 : decode b_VF_dissentersFrom 11 = .ok (.ixor, 1) := by decide +kernel
theorem d_VF_dissentersFrom_12 : decode b_VF_dissentersFrom 12 = .ok (.iand, 1) := by decide +kernel
theorem d_VF_dissentersFrom_13 : decode b_VF_dissentersFrom 13 = .ok (.istore_n 3, 1) := by decide +kernel
theorem d_VF_dissentersFrom_14 : decode b_VF_dissentersFrom 14 = .ok (.iconst 0, 1) := by decide +kernel
theorem d_VF_dissentersFrom_15 : decode b_VF_dissentersFrom 15 = .ok (.istore 4, 2) := by decide +kernel
theorem d_VF_dissentersFrom_17 : decode b_VF_dissentersFrom 17 = .ok (.iload 4, 2) := by decide +kernel
theorem d_VF_dissentersFrom_19 : decode b_VF_dissentersFrom 19 = .ok (.aload_n 0, 1) := by decide +kernel
theorem d_VF_dissentersFrom_20 : decode b_VF_dissentersFrom 20 = .ok (.getfield 13, 3) := by decide +kernel
theorem d_VF_dissentersFrom_23 : decode b_VF_dissentersFrom 23 = .ok (.if_icmp .ge 59, 3) := by decide +kernel
theorem d_VF_dissentersFrom_26 : decode b_VF_dissentersFrom 26 = .ok (.aload_n 2, 1) := by decide +kernel
theorem d_VF_dissentersFrom_27 : decode b_VF_dissentersFrom 27 = .ok (.getfield 198, 3) := by decide +kernel
theorem d_VF_dissentersFrom_30 : decode b_VF_dissentersFrom 30 = .ok (.iload 4, 2) := by decide +kernel
theorem d_VF_dissentersFrom_32 : decode b_VF_dissentersFrom 32 = .ok (.invokestatic 239, 3) := by decide +kernel
theorem d_VF_dissentersFrom_35 : decode b_VF_dissentersFrom 35 = .ok (.ifCond .eq 41, 3) := by decide +kernel
theorem d_VF_dissentersFrom_38 : decode b_VF_dissentersFrom 38 = .ok (.aload_n 0, 1) := by decide +kernel
theorem d_VF_dissentersFrom_39 : decode b_VF_dissentersFrom 39 = .ok (.getfield 31, 3) := by decide +kernel
theorem d_VF_dissentersFrom_42 : decode b_VF_dissentersFrom 42 = .ok (.iload 4, 2) := by decide +kernel
theorem d_VF_dissentersFrom_44 : decode b_VF_dissentersFrom 44 = .ok (.aaload, 1) := by decide +kernel
theorem d_VF_dissentersFrom_45 : decode b_VF_dissentersFrom 45 = .ok (.aload_n 0, 1) := by decide +kernel
theorem d_VF_dissentersFrom_46 : decode b_VF_dissentersFrom 46 = .ok (.getfield 66, 3) := by decide +kernel
theorem d_VF_dissentersFrom_49 : decode b_VF_dissentersFrom 49 = .ok (.iload 4, 2) := by decide +kernel
theorem d_VF_dissentersFrom_51 : decode b_VF_dissentersFrom 51 = .ok (.iaload, 1) := by decide +kernel
theorem d_VF_dissentersFrom_52 : decode b_VF_dissentersFrom 52 = .ok (.aload_n 2, 1) := by decide +kernel
theorem d_VF_dissentersFrom_53 : decode b_VF_dissentersFrom 53 = .ok (.getfield 236, 3) := by decide +kernel
theorem d_VF_dissentersFrom_56 : decode b_VF_dissentersFrom 56 = .ok (.aload_n 0, 1) := by decide +kernel
theorem d_VF_dissentersFrom_57 : decode b_VF_dissentersFrom 57 = .ok (.getfield 127, 3) := by decide +kernel
theorem d_VF_dissentersFrom_60 : decode b_VF_dissentersFrom 60 = .ok (.invokevirtual 242, 3) := by decide +kernel
theorem d_VF_dissentersFrom_63 : decode b_VF_dissentersFrom 63 = .ok (.iload_n 1, 1) := by decide +kernel
theorem d_VF_dissentersFrom_64 : decode b_VF_dissentersFrom 64 = .ok (.if_icmp .ne 12, 3) := by decide +kernel
theorem d_VF_dissentersFrom_67 : decode b_VF_dissentersFrom 67 = .ok (.iload_n 3, 1) := by decide +kernel
theorem d_VF_dissentersFrom_68 : decode b_VF_dissentersFrom 68 = .ok (.iconst 1, 1) := by decide +kernel
theorem d_VF_dissentersFrom_69 : decode b_VF_dissentersFrom 69 = .ok (.iload 4, 2) := by decide +kernel
theorem d_VF_dissentersFrom_71 : decode b_VF_dissentersFrom 71 = .ok (.ishl, 1) := by decide +kernel
theorem d_VF_dissentersFrom_72 : decode b_VF_dissentersFrom 72 = .ok (.iconst (-1), 1) := by decide +kernel
theorem d_VF_dissentersFrom_73 : decode b_VF_dissentersFrom 73 = .ok (.ixor, 1) := by decide +kernel
theorem d_VF_dissentersFrom_74 : decode b_VF_dissentersFrom 74 = .ok (.iand, 1) := by decide +kernel
theorem d_VF_dissentersFrom_75 : decode b_VF_dissentersFrom 75 = .ok (.istore_n 3, 1) := by decide +kernel
theorem d_VF_dissentersFrom_76 : decode b_VF_dissentersFrom 76 = .ok (.iinc 4 1, 3) := by decide +kernel
theorem d_VF_dissentersFrom_79 : decode b_VF_dissentersFrom 79 = .ok (.goto (-62), 3) := by decide +kernel
theorem d_VF_dissentersFrom_82 : decode b_VF_dissentersFrom 82 = .ok (.iload_n 3, 1) := by decide +kernel
theorem d_VF_dissentersFrom_83 : decode b_VF_dissentersFrom 83 = .ok (.ireturn, 1) := by decide +kernel
theorem d_VF_agreeOnAccused_0 : decode b_VF_agreeOnAccused 0 = .ok (.iconst 1, 1) := by decide +kernel
theorem d_VF_agreeOnAccused_1 : decode b_VF_agreeOnAccused 1 = .ok (.aload_n 0, 1) := by decide +kernel
theorem d_VF_agreeOnAccused_2 : decode b_VF_agreeOnAccused 2 = .ok (.getfield 13, 3) := by decide +kernel
theorem d_VF_agreeOnAccused_5 : decode b_VF_agreeOnAccused 5 = .ok (.ishl, 1) := by decide +kernel
theorem d_VF_agreeOnAccused_6 : decode b_VF_agreeOnAccused 6 = .ok (.iconst 1, 1) := by decide +kernel
theorem d_VF_agreeOnAccused_7 : decode b_VF_agreeOnAccused 7 = .ok (.isub, 1) := by decide +kernel
theorem d_VF_agreeOnAccused_8 : decode b_VF_agreeOnAccused 8 = .ok (.istore_n 1, 1) := by decide +kernel
theorem d_VF_agreeOnAccused_9 : decode b_VF_agreeOnAccused 9 = .ok (.iconst 0, 1) := by decide +kernel
theorem d_VF_agreeOnAccused_10 : decode b_VF_agreeOnAccused 10 = .ok (.istore_n 2, 1) := by decide +kernel
theorem d_VF_agreeOnAccused_11 : decode b_VF_agreeOnAccused 11 = .ok (.iload_n 2, 1) := by decide +kernel
theorem d_VF_agreeOnAccused_12 : decode b_VF_agreeOnAccused 12 = .ok (.aload_n 0, 1) := by decide +kernel
theorem d_VF_agreeOnAccused_13 : decode b_VF_agreeOnAccused 13 = .ok (.getfield 13, 3) := by decide +kernel
theorem d_VF_agreeOnAccused_16 : decode b_VF_agreeOnAccused 16 = .ok (.if_icmp .ge 63, 3) := by decide +kernel
theorem d_VF_agreeOnAccused_19 : decode b_VF_agreeOnAccused 19 = .ok (.aload_n 0, 1) := by decide +kernel
theorem d_VF_agreeOnAccused_20 : decode b_VF_agreeOnAccused 20 = .ok (.getfield 40, 3) := by decide +kernel
theorem d_VF_agreeOnAccused_23 : decode b_VF_agreeOnAccused 23 = .ok (.iload_n 2, 1) := by decide +kernel
theorem d_VF_agreeOnAccused_24 : decode b_VF_agreeOnAccused 24 = .ok (.aload_n 0, 1) := by decide +kernel
theorem d_VF_agreeOnAccused_25 : decode b_VF_agreeOnAccused 25 = .ok (.getfield 31, 3) := by decide +kernel
theorem d_VF_agreeOnAccused_28 : decode b_VF_agreeOnAccused 28 = .ok (.iload_n 2, 1) := by decide +kernel
theorem d_VF_agreeOnAccused_29 : decode b_VF_agreeOnAccused 29 = .ok (.aaload, 1) := by decide +kernel
theorem d_VF_agreeOnAccused_30 : decode b_VF_agreeOnAccused 30 = .ok (.getfield 149, 3) := by decide +kernel
theorem d_VF_agreeOnAccused_33 : decode b_VF_agreeOnAccused 33 = .ok (.invokevirtual 201, 3) := by decide +kernel
theorem d_VF_agreeOnAccused_36 : decode b_VF_agreeOnAccused 36 = .ok (.iconst 0, 1) := by decide +kernel
theorem d_VF_agreeOnAccused_37 : decode b_VF_agreeOnAccused 37 = .ok (.istore_n 3, 1) := by decide +kernel
theorem d_VF_agreeOnAccused_38 : decode b_VF_agreeOnAccused 38 = .ok (.iload_n 3, 1) := by decide +kernel
theorem d_VF_agreeOnAccused_39 : decode b_VF_agreeOnAccused 39 = .ok (.aload_n 0, 1) := by decide +kernel
theorem d_VF_agreeOnAccused_40 : decode b_VF_agreeOnAccused 40 = .ok (.getfield 13, 3) := by decide +kernel
theorem d_VF_agreeOnAccused_43 : decode b_VF_agreeOnAccused 43 = .ok (.if_icmp .ge 30, 3) := by decide +kernel
theorem d_VF_agreeOnAccused_46 : decode b_VF_agreeOnAccused 46 = .ok (.aload_n 0, 1) := by decide +kernel
theorem d_VF_agreeOnAccused_47 : decode b_VF_agreeOnAccused 47 = .ok (.getfield 31, 3) := by decide +kernel
theorem d_VF_agreeOnAccused_50 : decode b_VF_agreeOnAccused 50 = .ok (.iload_n 3, 1) := by decide +kernel
theorem d_VF_agreeOnAccused_51 : decode b_VF_agreeOnAccused 51 = .ok (.aaload, 1) := by decide +kernel
theorem d_VF_agreeOnAccused_52 : decode b_VF_agreeOnAccused 52 = .ok (.getfield 136, 3) := by decide +kernel
theorem d_VF_agreeOnAccused_55 : decode b_VF_agreeOnAccused 55 = .ok (.iload_n 2, 1) := by decide +kernel
theorem d_VF_agreeOnAccused_56 : decode b_VF_agreeOnAccused 56 = .ok (.aload_n 0, 1) := by decide +kernel
theorem d_VF_agreeOnAccused_57 : decode b_VF_agreeOnAccused 57 = .ok (.getfield 40, 3) := by decide +kernel
theorem d_VF_agreeOnAccused_60 : decode b_VF_agreeOnAccused 60 = .ok (.iload_n 3, 1) := by decide +kernel
theorem d_VF_agreeOnAccused_61 : decode b_VF_agreeOnAccused 61 = .ok (.invokevirtual 204, 3) := by decide +kernel
theorem d_VF_agreeOnAccused_64 : decode b_VF_agreeOnAccused 64 = .ok (.iload_n 1, 1) := by decide +kernel
theorem d_VF_agreeOnAccused_65 : decode b_VF_agreeOnAccused 65 = .ok (.iand, 1) := by decide +kernel
theorem d_VF_agreeOnAccused_66 : decode b_VF_agreeOnAccused 66 = .ok (.iastore, 1) := by decide +kernel
theorem d_VF_agreeOnAccused_67 : decode b_VF_agreeOnAccused 67 = .ok (.iinc 3 1, 3) := by decide +kernel
theorem d_VF_agreeOnAccused_70 : decode b_VF_agreeOnAccused 70 = .ok (.goto (-32), 3) := by decide +kernel
theorem d_VF_agreeOnAccused_73 : decode b_VF_agreeOnAccused 73 = .ok (.iinc 2 1, 3) := by decide +kernel
theorem d_VF_agreeOnAccused_76 : decode b_VF_agreeOnAccused 76 = .ok (.goto (-65), 3) := by decide +kernel
theorem d_VF_agreeOnAccused_79 : decode b_VF_agreeOnAccused 79 = .ok (.return_, 1) := by decide +kernel
theorem d_VF_strikeOut_0 : decode b_VF_strikeOut 0 = .ok (.iconst 0, 1) := by decide +kernel
theorem d_VF_strikeOut_1 : decode b_VF_strikeOut 1 = .ok (.istore_n 1, 1) := by decide +kernel
theorem d_VF_strikeOut_2 : decode b_VF_strikeOut 2 = .ok (.iconst 0, 1) := by decide +kernel
theorem d_VF_strikeOut_3 : decode b_VF_strikeOut 3 = .ok (.istore_n 2, 1) := by decide +kernel
theorem d_VF_strikeOut_4 : decode b_VF_strikeOut 4 = .ok (.iload_n 2, 1) := by decide +kernel
theorem d_VF_strikeOut_5 : decode b_VF_strikeOut 5 = .ok (.aload_n 0, 1) := by decide +kernel
theorem d_VF_strikeOut_6 : decode b_VF_strikeOut 6 = .ok (.getfield 13, 3) := by decide +kernel
theorem d_VF_strikeOut_9 : decode b_VF_strikeOut 9 = .ok (.if_icmp .ge 44, 3) := by decide +kernel
theorem d_VF_strikeOut_12 : decode b_VF_strikeOut 12 = .ok (.aload_n 0, 1) := by decide +kernel
theorem d_VF_strikeOut_13 : decode b_VF_strikeOut 13 = .ok (.aload_n 0, 1) := by decide +kernel
theorem d_VF_strikeOut_14 : decode b_VF_strikeOut 14 = .ok (.getfield 31, 3) := by decide +kernel
theorem d_VF_strikeOut_17 : decode b_VF_strikeOut 17 = .ok (.iload_n 2, 1) := by decide +kernel
theorem d_VF_strikeOut_18 : decode b_VF_strikeOut 18 = .ok (.aaload, 1) := by decide +kernel
theorem d_VF_strikeOut_19 : decode b_VF_strikeOut 19 = .ok (.invokevirtual 245, 3) := by decide +kernel
theorem d_VF_strikeOut_22 : decode b_VF_strikeOut 22 = .ok (.istore_n 3, 1) := by decide +kernel
theorem d_VF_strikeOut_23 : decode b_VF_strikeOut 23 = .ok (.aload_n 0, 1) := by decide +kernel
theorem d_VF_strikeOut_24 : decode b_VF_strikeOut 24 = .ok (.getfield 31, 3) := by decide +kernel
theorem d_VF_strikeOut_27 : decode b_VF_strikeOut 27 = .ok (.iload_n 2, 1) := by decide +kernel
theorem d_VF_strikeOut_28 : decode b_VF_strikeOut 28 = .ok (.aaload, 1) := by decide +kernel
theorem d_VF_strikeOut_29 : decode b_VF_strikeOut 29 = .ok (.dup, 1) := by decide +kernel
theorem d_VF_strikeOut_30 : decode b_VF_strikeOut 30 = .ok (.getfield 142, 3) := by decide +kernel
theorem d_VF_strikeOut_33 : decode b_VF_strikeOut 33 = .ok (.iload_n 3, 1) := by decide +kernel
theorem d_VF_strikeOut_34 : decode b_VF_strikeOut 34 = .ok (.iconst (-1), 1) := by decide +kernel
theorem d_VF_strikeOut_35 : decode b_VF_strikeOut 35 = .ok (.ixor, 1) := by decide +kernel
theorem d_VF_strikeOut_36 : decode b_VF_strikeOut 36 = .ok (.iand, 1) := by decide +kernel
theorem d_VF_strikeOut_37 : decode b_VF_strikeOut 37 = .ok (.putfield 142, 3) := by decide +kernel
theorem d_VF_strikeOut_40 : decode b_VF_strikeOut 40 = .ok (.iload_n 1, 1) := by decide +kernel
theorem d_VF_strikeOut_41 : decode b_VF_strikeOut 41 = .ok (.iload_n 3, 1) := by decide +kernel
theorem d_VF_strikeOut_42 : decode b_VF_strikeOut 42 = .ok (.invokestatic 248, 3) := by decide +kernel
theorem d_VF_strikeOut_45 : decode b_VF_strikeOut 45 = .ok (.iadd, 1) := by decide +kernel
theorem d_VF_strikeOut_46 : decode b_VF_strikeOut 46 = .ok (.istore_n 1, 1) := by decide +kernel
theorem d_VF_strikeOut_47 : decode b_VF_strikeOut 47 = .ok (.iinc 2 1, 3) := by decide +kernel
theorem d_VF_strikeOut_50 : decode b_VF_strikeOut 50 = .ok (.goto (-46), 3) := by decide +kernel
theorem d_VF_strikeOut_53 : decode b_VF_strikeOut 53 = .ok (.iload_n 1, 1) := by decide +kernel
theorem d_VF_strikeOut_54 : decode b_VF_strikeOut 54 = .ok (.ireturn, 1) := by decide +kernel
theorem d_VF_convictedBy_0 : decode b_VF_convictedBy 0 = .ok (.aload_n 1, 1) := by decide +kernel
theorem d_VF_convictedBy_1 : decode b_VF_convictedBy 1 = .ok (.aload_n 0, 1) := by decide +kernel
theorem d_VF_convictedBy_2 : decode b_VF_convictedBy 2 = .ok (.getfield 21, 3) := by decide +kernel
theorem d_VF_convictedBy_5 : decode b_VF_convictedBy 5 = .ok (.invokevirtual 145, 3) := by decide +kernel
theorem d_VF_convictedBy_8 : decode b_VF_convictedBy 8 = .ok (.iconst 1, 1) := by decide +kernel
theorem d_VF_convictedBy_9 : decode b_VF_convictedBy 9 = .ok (.iadd, 1) := by decide +kernel
theorem d_VF_convictedBy_10 : decode b_VF_convictedBy 10 = .ok (.istore_n 2, 1) := by decide +kernel
theorem d_VF_convictedBy_11 : decode b_VF_convictedBy 11 = .ok (.iconst 0, 1) := by decide +kernel
theorem d_VF_convictedBy_12 : decode b_VF_convictedBy 12 = .ok (.istore_n 3, 1) := by decide +kernel
theorem d_VF_convictedBy_13 : decode b_VF_convictedBy 13 = .ok (.iconst 0, 1) := by decide +kernel
theorem d_VF_convictedBy_14 : decode b_VF_convictedBy 14 = .ok (.istore 4, 2) := by decide +kernel
theorem d_VF_convictedBy_16 : decode b_VF_convictedBy 16 = .ok (.iload 4, 2) := by decide +kernel
theorem d_VF_convictedBy_18 : decode b_VF_convictedBy 18 = .ok (.aload_n 0, 1) := by decide +kernel
theorem d_VF_convictedBy_19 : decode b_VF_convictedBy 19 = .ok (.getfield 13, 3) := by decide +kernel
theorem d_VF_convictedBy_22 : decode b_VF_convictedBy 22 = .ok (.if_icmp .ge 47, 3) := by decide +kernel
theorem d_VF_convictedBy_25 : decode b_VF_convictedBy 25 = .ok (.iload 4, 2) := by decide +kernel
theorem d_VF_convictedBy_27 : decode b_VF_convictedBy 27 = .ok (.aload_n 1, 1) := by decide +kernel
theorem d_VF_convictedBy_28 : decode b_VF_convictedBy 28 = .ok (.getfield 236, 3) := by decide +kernel
theorem d_VF_convictedBy_31 : decode b_VF_convictedBy 31 = .ok (.if_icmp .eq 32, 3) := by decide +kernel
theorem d_VF_convictedBy_34 : decode b_VF_convictedBy 34 = .ok (.aload_n 1, 1) := by decide +kernel
theorem d_VF_convictedBy_35 : decode b_VF_convictedBy 35 = .ok (.getfield 142, 3) := by decide +kernel
theorem d_VF_convictedBy_38 : decode b_VF_convictedBy 38 = .ok (.iload 4, 2) := by decide +kernel
theorem d_VF_convictedBy_40 : decode b_VF_convictedBy 40 = .ok (.invokestatic 239, 3) := by decide +kernel
theorem d_VF_convictedBy_43 : decode b_VF_convictedBy 43 = .ok (.ifCond .eq 20, 3) := by decide +kernel
theorem d_VF_convictedBy_46 : decode b_VF_convictedBy 46 = .ok (.aload_n 1, 1) := by decide +kernel
theorem d_VF_convictedBy_47 : decode b_VF_convictedBy 47 = .ok (.iload 4, 2) := by decide +kernel
theorem d_VF_convictedBy_49 : decode b_VF_convictedBy 49 = .ok (.invokevirtual 253, 3) := by decide +kernel
theorem d_VF_convictedBy_52 : decode b_VF_convictedBy 52 = .ok (.iload_n 2, 1) := by decide +kernel
theorem d_VF_convictedBy_53 : decode b_VF_convictedBy 53 = .ok (.if_icmp .lt 10, 3) := by decide +kernel
theorem d_VF_convictedBy_56 : decode b_VF_convictedBy 56 = .ok (.iload_n 3, 1) := by decide +kernel
theorem d_VF_convictedBy_57 : decode b_VF_convictedBy 57 = .ok (.iconst 1, 1) := by decide +kernel
theorem d_VF_convictedBy_58 : decode b_VF_convictedBy 58 = .ok (.iload 4, 2) := by decide +kernel
theorem d_VF_convictedBy_60 : decode b_VF_convictedBy 60 = .ok (.ishl, 1) := by decide +kernel
theorem d_VF_convictedBy_61 : decode b_VF_convictedBy 61 = .ok (.ior, 1) := by decide +kernel
theorem d_VF_convictedBy_62 : decode b_VF_convictedBy 62 = .ok (.istore_n 3, 1) := by decide +kernel
theorem d_VF_convictedBy_63 : decode b_VF_convictedBy 63 = .ok (.iinc 4 1, 3) := by decide +kernel
theorem d_VF_convictedBy_66 : decode b_VF_convictedBy 66 = .ok (.goto (-50), 3) := by decide +kernel
theorem d_VF_convictedBy_69 : decode b_VF_convictedBy 69 = .ok (.iload_n 3, 1) := by decide +kernel
theorem d_VF_convictedBy_70 : decode b_VF_convictedBy 70 = .ok (.ireturn, 1) := by decide +kernel
theorem d_VF_correctClocks_0 : decode b_VF_correctClocks 0 = .ok (.iconst 0, 1) := by decide +kernel
theorem d_VF_correctClocks_1 : decode b_VF_correctClocks 1 = .ok (.istore_n 1, 1) := by decide +kernel
theorem d_VF_correctClocks_2 : decode b_VF_correctClocks 2 = .ok (.iload_n 1, 1) := by decide +kernel
theorem d_VF_correctClocks_3 : decode b_VF_correctClocks 3 = .ok (.aload_n 0, 1) := by decide +kernel
theorem d_VF_correctClocks_4 : decode b_VF_correctClocks 4 = .ok (.getfield 13, 3) := by decide +kernel
theorem d_VF_correctClocks_7 : decode b_VF_correctClocks 7 = .ok (.if_icmp .ge 28, 3) := by decide +kernel
theorem d_VF_correctClocks_10 : decode b_VF_correctClocks 10 = .ok (.aload_n 0, 1) := by decide +kernel
theorem d_VF_correctClocks_11 : decode b_VF_correctClocks 11 = .ok (.getfield 31, 3) := by decide +kernel
theorem d_VF_correctClocks_14 : decode b_VF_correctClocks 14 = .ok (.iload_n 1, 1) := by decide +kernel
theorem d_VF_correctClocks_15 : decode b_VF_correctClocks 15 = .ok (.aaload, 1) := by decide +kernel
theorem d_VF_correctClocks_16 : decode b_VF_correctClocks 16 = .ok (.aload_n 0, 1) := by decide +kernel
theorem d_VF_correctClocks_17 : decode b_VF_correctClocks 17 = .ok (.aload_n 0, 1) := by decide +kernel
theorem d_VF_correctClocks_18 : decode b_VF_correctClocks 18 = .ok (.getfield 31, 3) := by decide +kernel
theorem d_VF_correctClocks_21 : decode b_VF_correctClocks 21 = .ok (.iload_n 1, 1) := by decide +kernel
theorem d_VF_correctClocks_22 : decode b_VF_correctClocks 22 = .ok (.aaload, 1) := by decide +kernel
theorem d_VF_correctClocks_23 : decode b_VF_correctClocks 23 = .ok (.invokevirtual 256, 3) := by decide +kernel
theorem d_VF_correctClocks_26 : decode b_VF_correctClocks 26 = .ok (.putfield 130, 3) := by decide +kernel
theorem d_VF_correctClocks_29 : decode b_VF_correctClocks 29 = .ok (.iinc 1 1, 3) := by decide +kernel
theorem d_VF_correctClocks_32 : decode b_VF_correctClocks 32 = .ok (.goto (-30), 3) := by decide +kernel
theorem d_VF_correctClocks_35 : decode b_VF_correctClocks 35 = .ok (.iconst 0, 1) := by decide +kernel
theorem d_VF_correctClocks_36 : decode b_VF_correctClocks 36 = .ok (.istore_n 1, 1) := by decide +kernel
theorem d_VF_correctClocks_37 : decode b_VF_correctClocks 37 = .ok (.iload_n 1, 1) := by decide +kernel
theorem d_VF_correctClocks_38 : decode b_VF_correctClocks 38 = .ok (.aload_n 0, 1) := by decide +kernel
theorem d_VF_correctClocks_39 : decode b_VF_correctClocks 39 = .ok (.getfield 13, 3) := by decide +kernel
theorem d_VF_correctClocks_42 : decode b_VF_correctClocks 42 = .ok (.if_icmp .ge 42, 3) := by decide +kernel
theorem d_VF_correctClocks_45 : decode b_VF_correctClocks 45 = .ok (.aload_n 0, 1) := by decide +kernel
theorem d_VF_correctClocks_46 : decode b_VF_correctClocks 46 = .ok (.getfield 31, 3) := by decide +kernel
theorem d_VF_correctClocks_49 : decode b_VF_correctClocks 49 = .ok (.iload_n 1, 1) := by decide +kernel
theorem d_VF_correctClocks_50 : decode b_VF_correctClocks 50 = .ok (.aaload, 1) := by decide +kernel
theorem d_VF_correctClocks_51 : decode b_VF_correctClocks 51 = .ok (.dup, 1) := by decide +kernel
theorem d_VF_correctClocks_52 : decode b_VF_correctClocks 52 = .ok (.getfield 80, 3) := by decide +kernel
theorem d_VF_correctClocks_55 : decode b_VF_correctClocks 55 = .ok (.aload_n 0, 1) := by decide +kernel
theorem d_VF_correctClocks_56 : decode b_VF_correctClocks 56 = .ok (.getfield 31, 3) := by decide +kernel
theorem d_VF_correctClocks_59 : decode b_VF_correctClocks 59 = .ok (.iload_n 1, 1) := by decide +kernel
theorem d_VF_correctClocks_60 : decode b_VF_correctClocks 60 = .ok (.aaload, 1) := by decide +kernel
theorem d_VF_correctClocks_61 : decode b_VF_correctClocks 61 = .ok (.getfield 130, 3) := by decide +kernel
theorem d_VF_correctClocks_64 : decode b_VF_correctClocks 64 = .ok (.aload_n 0, 1) := by decide +kernel
theorem d_VF_correctClocks_65 : decode b_VF_correctClocks 65 = .ok (.getfield 31, 3) := by decide +kernel
theorem d_VF_correctClocks_68 : decode b_VF_correctClocks 68 = .ok (.iload_n 1, 1) := by decide +kernel
theorem d_VF_correctClocks_69 : decode b_VF_correctClocks 69 = .ok (.aaload, 1) := by decide +kernel
theorem d_VF_correctClocks_70 : decode b_VF_correctClocks 70 = .ok (.getfield 85, 3) := by decide +kernel
theorem d_VF_correctClocks_73 : decode b_VF_correctClocks 73 = .ok (.iadd, 1) := by decide +kernel
theorem d_VF_correctClocks_74 : decode b_VF_correctClocks 74 = .ok (.iadd, 1) := by decide +kernel
theorem d_VF_correctClocks_75 : decode b_VF_correctClocks 75 = .ok (.putfield 80, 3) := by decide +kernel
theorem d_VF_correctClocks_78 : decode b_VF_correctClocks 78 = .ok (.iinc 1 1, 3) := by decide +kernel
theorem d_VF_correctClocks_81 : decode b_VF_correctClocks 81 = .ok (.goto (-44), 3) := by decide +kernel
theorem d_VF_correctClocks_84 : decode b_VF_correctClocks 84 = .ok (.return_, 1) := by decide +kernel
theorem d_VF_correctionFor_0 : decode b_VF_correctionFor 0 = .ok (.iconst 0, 1) := by decide +kernel
theorem d_VF_correctionFor_1 : decode b_VF_correctionFor 1 = .ok (.istore_n 2, 1) := by decide +kernel
theorem d_VF_correctionFor_2 : decode b_VF_correctionFor 2 = .ok (.iconst 0, 1) := by decide +kernel
theorem d_VF_correctionFor_3 : decode b_VF_correctionFor 3 = .ok (.istore_n 3, 1) := by decide +kernel
theorem d_VF_correctionFor_4 : decode b_VF_correctionFor 4 = .ok (.iload_n 3, 1) := by decide +kernel
theorem d_VF_correctionFor_5 : decode b_VF_correctionFor 5 = .ok (.aload_n 0, 1) := by decide +kernel
theorem d_VF_correctionFor_6 : decode b_VF_correctionFor 6 = .ok (.getfield 13, 3) := by decide +kernel
theorem d_VF_correctionFor_9 : decode b_VF_correctionFor 9 = .ok (.if_icmp .ge 76, 3) := by decide +kernel
theorem d_VF_correctionFor_12 : decode b_VF_correctionFor 12 = .ok (.iload_n 3, 1) := by decide +kernel
theorem d_VF_correctionFor_13 : decode b_VF_correctionFor 13 = .ok (.aload_n 1, 1) := by decide +kernel
theorem d_VF_correctionFor_14 : decode b_VF_correctionFor 14 = .ok (.getfield 236, 3) := by decide +kernel
theorem d_VF_correctionFor_17 : decode b_VF_correctionFor 17 = .ok (.if_icmp .eq 62, 3) := by decide +kernel
theorem d_VF_correctionFor_20 : decode b_VF_correctionFor 20 = .ok (.aload_n 1, 1) := by decide +kernel
theorem d_VF_correctionFor_21 : decode b_VF_correctionFor 21 = .ok (.getfield 142, 3) := by decide +kernel
theorem d_VF_correctionFor_24 : decode b_VF_correctionFor 24 = .ok (.iload_n 3, 1) := by decide +kernel
theorem d_VF_correctionFor_25 : decode b_VF_correctionFor 25 = .ok (.invokestatic 239, 3) := by decide +kernel
theorem d_VF_correctionFor_28 : decode b_VF_correctionFor 28 = .ok (.ifCond .eq 51, 3) := by decide +kernel
theorem d_VF_correctionFor_31 : decode b_VF_correctionFor 31 = .ok (.aload_n 0, 1) := by decide +kernel
theorem d_VF_correctionFor_32 : decode b_VF_correctionFor 32 = .ok (.getfield 31, 3) := by decide +kernel
theorem d_VF_correctionFor_35 : decode b_VF_correctionFor 35 = .ok (.iload_n 3, 1) := by decide +kernel
theorem d_VF_correctionFor_36 : decode b_VF_correctionFor 36 = .ok (.aaload, 1) := by decide +kernel
theorem d_VF_correctionFor_37 : decode b_VF_correctionFor 37 = .ok (.getfield 97, 3) := by decide +kernel
theorem d_VF_correctionFor_40 : decode b_VF_correctionFor 40 = .ok (.iconst 1, 1) := by decide +kernel
theorem d_VF_correctionFor_41 : decode b_VF_correctionFor 41 = .ok (.if_icmp .eq 38, 3) := by decide +kernel
theorem d_VF_correctionFor_44 : decode b_VF_correctionFor 44 = .ok (.aload_n 1, 1) := by decide +kernel
theorem d_VF_correctionFor_45 : decode b_VF_correctionFor 45 = .ok (.aload_n 0, 1) := by decide +kernel
theorem d_VF_correctionFor_46 : decode b_VF_correctionFor 46 = .ok (.getfield 31, 3) := by decide +kernel
theorem d_VF_correctionFor_49 : decode b_VF_correctionFor 49 = .ok (.iload_n 3, 1) := by decide +kernel
theorem d_VF_correctionFor_50 : decode b_VF_correctionFor 50 = .ok (.aaload, 1) := by decide +kernel
theorem d_VF_correctionFor_51 : decode b_VF_correctionFor 51 = .ok (.invokevirtual 259, 3) := by decide +kernel
theorem d_VF_correctionFor_54 : decode b_VF_correctionFor 54 = .ok (.istore 4, 2) := by decide +kernel
theorem d_VF_correctionFor_56 : decode b_VF_correctionFor 56 = .ok (.iload_n 2, 1) := by decide +kernel
theorem d_VF_correctionFor_57 : decode b_VF_correctionFor 57 = .ok (.iload 4, 2) := by decide +kernel
theorem d_VF_correctionFor_59 : decode b_VF_correctionFor 59 = .ok (.aload_n 0, 1) := by decide +kernel
theorem d_VF_correctionFor_60 : decode b_VF_correctionFor 60 = .ok (.getfield 24, 3) := by decide +kernel
theorem d_VF_correctionFor_63 : decode b_VF_correctionFor 63 = .ok (.iconst 3, 1) := by decide +kernel
theorem d_VF_correctionFor_64 : decode b_VF_correctionFor 64 = .ok (.iadd, 1) := by decide +kernel
theorem d_VF_correctionFor_65 : decode b_VF_correctionFor 65 = .ok (.invokestatic 76, 3) := by decide +kernel
theorem d_VF_correctionFor_68 : decode b_VF_correctionFor 68 = .ok (.ifCond .eq 8, 3) := by decide +kernel
theorem d_VF_correctionFor_71 : decode b_VF_correctionFor 71 = .ok (.iload 4, 2) := by decide +kernel
theorem d_VF_correctionFor_73 : decode b_VF_correctionFor 73 = .ok (.goto 4, 3) := by decide +kernel
theorem d_VF_correctionFor_76 : decode b_VF_correctionFor 76 = .ok (.iconst 0, 1) := by decide +kernel
theorem d_VF_correctionFor_77 : decode b_VF_correctionFor 77 = .ok (.iadd, 1) := by decide +kernel
theorem d_VF_correctionFor_78 : decode b_VF_correctionFor 78 = .ok (.istore_n 2, 1) := by decide +kernel
theorem d_VF_correctionFor_79 : decode b_VF_correctionFor 79 = .ok (.iinc 3 1, 3) := by decide +kernel
theorem d_VF_correctionFor_82 : decode b_VF_correctionFor 82 = .ok (.goto (-78), 3) := by decide +kernel
theorem d_VF_correctionFor_85 : decode b_VF_correctionFor 85 = .ok (.aload_n 1, 1) := by decide +kernel
theorem d_VF_correctionFor_86 : decode b_VF_correctionFor 86 = .ok (.invokevirtual 225, 3) := by decide +kernel
theorem d_VF_correctionFor_89 : decode b_VF_correctionFor 89 = .ok (.istore_n 3, 1) := by decide +kernel
theorem d_VF_correctionFor_90 : decode b_VF_correctionFor 90 = .ok (.iload_n 3, 1) := by decide +kernel
theorem d_VF_correctionFor_91 : decode b_VF_correctionFor 91 = .ok (.ifCond .ne 7, 3) := by decide +kernel
theorem d_VF_correctionFor_94 : decode b_VF_correctionFor 94 = .ok (.iconst 0, 1) := by decide +kernel
theorem d_VF_correctionFor_95 : decode b_VF_correctionFor 95 = .ok (.goto 8, 3) := by decide +kernel
theorem d_VF_correctionFor_98 : decode b_VF_correctionFor 98 = .ok (.iload_n 2, 1) := by decide +kernel
theorem d_VF_correctionFor_99 : decode b_VF_correctionFor 99 = .ok (.iload_n 3, 1) := by decide +kernel
theorem d_VF_correctionFor_100 : decode b_VF_correctionFor 100 = .ok (.invokestatic 262, 3) := by decide +kernel
theorem d_VF_correctionFor_103 : decode b_VF_correctionFor 103 = .ok (.ireturn, 1) := by decide +kernel
theorem d_VF_frame_0 : decode b_VF_frame 0 = .ok (.aload_n 0, 1) := by decide +kernel
theorem d_VF_frame_1 : decode b_VF_frame 1 = .ok (.getfield 127, 3) := by decide +kernel
theorem d_VF_frame_4 : decode b_VF_frame 4 = .ok (.ireturn, 1) := by decide +kernel
theorem d_VF_reading_0 : decode b_VF_reading 0 = .ok (.aload_n 0, 1) := by decide +kernel
theorem d_VF_reading_1 : decode b_VF_reading 1 = .ok (.iload_n 1, 1) := by decide +kernel
theorem d_VF_reading_2 : decode b_VF_reading 2 = .ok (.invokevirtual 72, 3) := by decide +kernel
theorem d_VF_reading_5 : decode b_VF_reading 5 = .ok (.ifCond .eq 15, 3) := by decide +kernel
theorem d_VF_reading_8 : decode b_VF_reading 8 = .ok (.aload_n 0, 1) := by decide +kernel
theorem d_VF_reading_9 : decode b_VF_reading 9 = .ok (.getfield 31, 3) := by decide +kernel
theorem d_VF_reading_12 : decode b_VF_reading 12 = .ok (.iload_n 1, 1) := by decide +kernel
theorem d_VF_reading_13 : decode b_VF_reading 13 = .ok (.aaload, 1) := by decide +kernel
theorem d_VF_reading_14 : decode b_VF_reading 14 = .ok (.getfield 80, 3) := by decide +kernel
theorem d_VF_reading_17 : decode b_VF_reading 17 = .ok (.goto 4, 3) := by decide +kernel
theorem d_VF_reading_20 : decode b_VF_reading 20 = .ok (.iconst 0, 1) := by decide +kernel
theorem d_VF_reading_21 : decode b_VF_reading 21 = .ok (.ireturn, 1) := by decide +kernel
theorem d_VF_correction_0 : decode b_VF_correction 0 = .ok (.aload_n 0, 1) := by decide +kernel
theorem d_VF_correction_1 : decode b_VF_correction 1 = .ok (.iload_n 1, 1) := by decide +kernel
theorem d_VF_correction_2 : decode b_VF_correction 2 = .ok (.invokevirtual 72, 3) := by decide +kernel
theorem d_VF_correction_5 : decode b_VF_correction 5 = .ok (.ifCond .eq 15, 3) := by decide +kernel
theorem d_VF_correction_8 : decode b_VF_correction 8 = .ok (.aload_n 0, 1) := by decide +kernel
theorem d_VF_correction_9 : decode b_VF_correction 9 = .ok (.getfield 31, 3) := by decide +kernel
theorem d_VF_correction_12 : decode b_VF_correction 12 = .ok (.iload_n 1, 1) := by decide +kernel
theorem d_VF_correction_13 : decode b_VF_correction 13 = .ok (.aaload, 1) := by decide +kernel
theorem d_VF_correction_14 : decode b_VF_correction 14 = .ok (.getfield 130, 3) := by decide +kernel
theorem d_VF_correction_17 : decode b_VF_correction 17 = .ok (.goto 4, 3) := by decide +kernel
theorem d_VF_correction_20 : decode b_VF_correction 20 = .ok (.iconst 0, 1) := by decide +kernel
theorem d_VF_correction_21 : decode b_VF_correction 21 = .ok (.ireturn, 1) := by decide +kernel
theorem d_VF_input_0 : decode b_VF_input 0 = .ok (.aload_n 0, 1) := by decide +kernel
theorem d_VF_input_1 : decode b_VF_input 1 = .ok (.iload_n 1, 1) := by decide +kernel
theorem d_VF_input_2 : decode b_VF_input 2 = .ok (.invokevirtual 72, 3) := by decide +kernel
theorem d_VF_input_5 : decode b_VF_input 5 = .ok (.ifCond .eq 25, 3) := by decide +kernel
theorem d_VF_input_8 : decode b_VF_input 8 = .ok (.aload_n 0, 1) := by decide +kernel
theorem d_VF_input_9 : decode b_VF_input 9 = .ok (.iload_n 2, 1) := by decide +kernel
theorem d_VF_input_10 : decode b_VF_input 10 = .ok (.invokevirtual 72, 3) := by decide +kernel
theorem d_VF_input_13 : decode b_VF_input 13 = .ok (.ifCond .eq 17, 3) := by decide +kernel
theorem d_VF_input_16 : decode b_VF_input 16 = .ok (.aload_n 0, 1) := by decide +kernel
theorem d_VF_input_17 : decode b_VF_input 17 = .ok (.getfield 31, 3) := by decide +kernel
theorem d_VF_input_20 : decode b_VF_input 20 = .ok (.iload_n 1, 1) := by decide +kernel
theorem d_VF_input_21 : decode b_VF_input 21 = .ok (.aaload, 1) := by decide +kernel
theorem d_VF_input_22 : decode b_VF_input 22 = .ok (.getfield 133, 3) := by decide +kernel
theorem d_VF_input_25 : decode b_VF_input 25 = .ok (.iload_n 2, 1) := by decide +kernel
theorem d_VF_input_26 : decode b_VF_input 26 = .ok (.iaload, 1) := by decide +kernel
theorem d_VF_input_27 : decode b_VF_input 27 = .ok (.goto 4, 3) := by decide +kernel
theorem d_VF_input_30 : decode b_VF_input 30 = .ok (.iconst 0, 1) := by decide +kernel
theorem d_VF_input_31 : decode b_VF_input 31 = .ok (.ireturn, 1) := by decide +kernel
theorem d_VF_charge_0 : decode b_VF_charge 0 = .ok (.aload_n 0, 1) := by decide +kernel
theorem d_VF_charge_1 : decode b_VF_charge 1 = .ok (.iload_n 1, 1) := by decide +kernel
theorem d_VF_charge_2 : decode b_VF_charge 2 = .ok (.invokevirtual 72, 3) := by decide +kernel
theorem d_VF_charge_5 : decode b_VF_charge 5 = .ok (.ifCond .eq 25, 3) := by decide +kernel
theorem d_VF_charge_8 : decode b_VF_charge 8 = .ok (.aload_n 0, 1) := by decide +kernel
theorem d_VF_charge_9 : decode b_VF_charge 9 = .ok (.iload_n 2, 1) := by decide +kernel
theorem d_VF_charge_10 : decode b_VF_charge 10 = .ok (.invokevirtual 72, 3) := by decide +kernel
theorem d_VF_charge_13 : decode b_VF_charge 13 = .ok (.ifCond .eq 17, 3) := by decide +kernel
theorem d_VF_charge_16 : decode b_VF_charge 16 = .ok (.aload_n 0, 1) := by decide +kernel
theorem d_VF_charge_17 : decode b_VF_charge 17 = .ok (.getfield 31, 3) := by decide +kernel
theorem d_VF_charge_20 : decode b_VF_charge 20 = .ok (.iload_n 1, 1) := by decide +kernel
theorem d_VF_charge_21 : decode b_VF_charge 21 = .ok (.aaload, 1) := by decide +kernel
theorem d_VF_charge_22 : decode b_VF_charge 22 = .ok (.getfield 136, 3) := by decide +kernel
theorem d_VF_charge_25 : decode b_VF_charge 25 = .ok (.iload_n 2, 1) := by decide +kernel
theorem d_VF_charge_26 : decode b_VF_charge 26 = .ok (.iaload, 1) := by decide +kernel
theorem d_VF_charge_27 : decode b_VF_charge 27 = .ok (.goto 4, 3) := by decide +kernel
theorem d_VF_charge_30 : decode b_VF_charge 30 = .ok (.iconst 0, 1) := by decide +kernel
theorem d_VF_charge_31 : decode b_VF_charge 31 = .ok (.ireturn, 1) := by decide +kernel
theorem d_VF_word_0 : decode b_VF_word 0 = .ok (.aload_n 0, 1) := by decide +kernel
theorem d_VF_word_1 : decode b_VF_word 1 = .ok (.iload_n 1, 1) := by decide +kernel
theorem d_VF_word_2 : decode b_VF_word 2 = .ok (.invokevirtual 72, 3) := by decide +kernel
theorem d_VF_word_5 : decode b_VF_word 5 = .ok (.ifCond .eq 24, 3) := by decide +kernel
theorem d_VF_word_8 : decode b_VF_word 8 = .ok (.iload_n 2, 1) := by decide +kernel
theorem d_VF_word_9 : decode b_VF_word 9 = .ok (.invokestatic 103, 3) := by decide +kernel
theorem d_VF_word_12 : decode b_VF_word 12 = .ok (.ifCond .eq 17, 3) := by decide +kernel
theorem d_VF_word_15 : decode b_VF_word 15 = .ok (.aload_n 0, 1) := by decide +kernel
theorem d_VF_word_16 : decode b_VF_word 16 = .ok (.getfield 31, 3) := by decide +kernel
theorem d_VF_word_19 : decode b_VF_word 19 = .ok (.iload_n 1, 1) := by decide +kernel
theorem d_VF_word_20 : decode b_VF_word 20 = .ok (.aaload, 1) := by decide +kernel
theorem d_VF_word_21 : decode b_VF_word 21 = .ok (.getfield 139, 3) := by decide +kernel
theorem d_VF_word_24 : decode b_VF_word 24 = .ok (.iload_n 2, 1) := by decide +kernel
theorem d_VF_word_25 : decode b_VF_word 25 = .ok (.iaload, 1) := by decide +kernel
theorem d_VF_word_26 : decode b_VF_word 26 = .ok (.goto 4, 3) := by decide +kernel
theorem d_VF_word_29 : decode b_VF_word 29 = .ok (.iconst 0, 1) := by decide +kernel
theorem d_VF_word_30 : decode b_VF_word 30 = .ok (.ireturn, 1) := by decide +kernel
theorem d_VF_members_0 : decode b_VF_members 0 = .ok (.aload_n 0, 1) := by decide +kernel
theorem d_VF_members_1 : decode b_VF_members 1 = .ok (.iload_n 1, 1) := by decide +kernel
theorem d_VF_members_2 : decode b_VF_members 2 = .ok (.invokevirtual 72, 3) := by decide +kernel
theorem d_VF_members_5 : decode b_VF_members 5 = .ok (.ifCond .eq 15, 3) := by decide +kernel
theorem d_VF_members_8 : decode b_VF_members 8 = .ok (.aload_n 0, 1) := by decide +kernel
theorem d_VF_members_9 : decode b_VF_members 9 = .ok (.getfield 31, 3) := by decide +kernel
theorem d_VF_members_12 : decode b_VF_members 12 = .ok (.iload_n 1, 1) := by decide +kernel
theorem d_VF_members_13 : decode b_VF_members 13 = .ok (.aaload, 1) := by decide +kernel
theorem d_VF_members_14 : decode b_VF_members 14 = .ok (.getfield 142, 3) := by decide +kernel
theorem d_VF_members_17 : decode b_VF_members 17 = .ok (.goto 4, 3) := by decide +kernel
theorem d_VF_members_20 : decode b_VF_members 20 = .ok (.iconst 0, 1) := by decide +kernel
theorem d_VF_members_21 : decode b_VF_members 21 = .ok (.ireturn, 1) := by decide +kernel
theorem d_VF_bears_0 : decode b_VF_bears 0 = .ok (.aload_n 0, 1) := by decide +kernel
theorem d_VF_bears_1 : decode b_VF_bears 1 = .ok (.iload_n 1, 1) := by decide +kernel
theorem d_VF_bears_2 : decode b_VF_bears 2 = .ok (.invokevirtual 72, 3) := by decide +kernel
theorem d_VF_bears_5 : decode b_VF_bears 5 = .ok (.ifCond .eq 19, 3) := by decide +kernel
theorem d_VF_bears_8 : decode b_VF_bears 8 = .ok (.aload_n 0, 1) := by decide +kernel
theorem d_VF_bears_9 : decode b_VF_bears 9 = .ok (.getfield 31, 3) := by decide +kernel
theorem d_VF_bears_12 : decode b_VF_bears 12 = .ok (.iload_n 1, 1) := by decide +kernel
theorem d_VF_bears_13 : decode b_VF_bears 13 = .ok (.aaload, 1) := by decide +kernel
theorem d_VF_bears_14 : decode b_VF_bears 14 = .ok (.aload_n 0, 1) := by decide +kernel
theorem d_VF_bears_15 : decode b_VF_bears 15 = .ok (.getfield 21, 3) := by decide +kernel
theorem d_VF_bears_18 : decode b_VF_bears 18 = .ok (.invokevirtual 145, 3) := by decide +kernel
theorem d_VF_bears_21 : decode b_VF_bears 21 = .ok (.goto 4, 3) := by decide +kernel
theorem d_VF_bears_24 : decode b_VF_bears 24 = .ok (.iconst 0, 1) := by decide +kernel
theorem d_VF_bears_25 : decode b_VF_bears 25 = .ok (.ireturn, 1) := by decide +kernel
theorem d_VF_accused_0 : decode b_VF_accused 0 = .ok (.aload_n 0, 1) := by decide +kernel
theorem d_VF_accused_1 : decode b_VF_accused 1 = .ok (.iload_n 1, 1) := by decide +kernel
theorem d_VF_accused_2 : decode b_VF_accused 2 = .ok (.invokevirtual 72, 3) := by decide +kernel
theorem d_VF_accused_5 : decode b_VF_accused 5 = .ok (.ifCond .eq 15, 3) := by decide +kernel
theorem d_VF_accused_8 : decode b_VF_accused 8 = .ok (.aload_n 0, 1) := by decide +kernel
theorem d_VF_accused_9 : decode b_VF_accused 9 = .ok (.getfield 31, 3) := by decide +kernel
theorem d_VF_accused_12 : decode b_VF_accused 12 = .ok (.iload_n 1, 1) := by decide +kernel
theorem d_VF_accused_13 : decode b_VF_accused 13 = .ok (.aaload, 1) := by decide +kernel
theorem d_VF_accused_14 : decode b_VF_accused 14 = .ok (.getfield 149, 3) := by decide +kernel
theorem d_VF_accused_17 : decode b_VF_accused 17 = .ok (.goto 4, 3) := by decide +kernel
theorem d_VF_accused_20 : decode b_VF_accused 20 = .ok (.iconst 0, 1) := by decide +kernel
theorem d_VF_accused_21 : decode b_VF_accused 21 = .ok (.ireturn, 1) := by decide +kernel
theorem d_VF_spread_0 : decode b_VF_spread 0 = .ok (.aload_n 0, 1) := by decide +kernel
theorem d_VF_spread_1 : decode b_VF_spread 1 = .ok (.invokevirtual 152, 3) := by decide +kernel
theorem d_VF_spread_4 : decode b_VF_spread 4 = .ok (.istore_n 1, 1) := by decide +kernel
theorem d_VF_spread_5 : decode b_VF_spread 5 = .ok (.iload_n 1, 1) := by decide +kernel
theorem d_VF_spread_6 : decode b_VF_spread 6 = .ok (.ifCond .ge 5, 3) := by decide +kernel
theorem d_VF_spread_9 : decode b_VF_spread 9 = .ok (.iconst 0, 1) := by decide +kernel
theorem d_VF_spread_10 : decode b_VF_spread 10 = .ok (.ireturn, 1) := by decide +kernel
theorem d_VF_spread_11 : decode b_VF_spread 11 = .ok (.aload_n 0, 1) := by decide +kernel
theorem d_VF_spread_12 : decode b_VF_spread 12 = .ok (.getfield 31, 3) := by decide +kernel
theorem d_VF_spread_15 : decode b_VF_spread 15 = .ok (.iload_n 1, 1) := by decide +kernel
theorem d_VF_spread_16 : decode b_VF_spread 16 = .ok (.aaload, 1) := by decide +kernel
theorem d_VF_spread_17 : decode b_VF_spread 17 = .ok (.getfield 80, 3) := by decide +kernel
theorem d_VF_spread_20 : decode b_VF_spread 20 = .ok (.istore_n 2, 1) := by decide +kernel
theorem d_VF_spread_21 : decode b_VF_spread 21 = .ok (.iload_n 2, 1) := by decide +kernel
theorem d_VF_spread_22 : decode b_VF_spread 22 = .ok (.istore_n 3, 1) := by decide +kernel
theorem d_VF_spread_23 : decode b_VF_spread 23 = .ok (.iload_n 1, 1) := by decide +kernel
theorem d_VF_spread_24 : decode b_VF_spread 24 = .ok (.iconst 1, 1) := by decide +kernel
theorem d_VF_spread_25 : decode b_VF_spread 25 = .ok (.iadd, 1) := by decide +kernel
theorem d_VF_spread_26 : decode b_VF_spread 26 = .ok (.istore 4, 2) := by decide +kernel
theorem d_VF_spread_28 : decode b_VF_spread 28 = .ok (.iload 4, 2) := by decide +kernel
theorem d_VF_spread_30 : decode b_VF_spread 30 = .ok (.aload_n 0, 1) := by decide +kernel
theorem d_VF_spread_31 : decode b_VF_spread 31 = .ok (.getfield 13, 3) := by decide +kernel
theorem d_VF_spread_34 : decode b_VF_spread 34 = .ok (.if_icmp .ge 52, 3) := by decide +kernel
theorem d_VF_spread_37 : decode b_VF_spread 37 = .ok (.aload_n 0, 1) := by decide +kernel
theorem d_VF_spread_38 : decode b_VF_spread 38 = .ok (.getfield 31, 3) := by decide +kernel
theorem d_VF_spread_41 : decode b_VF_spread 41 = .ok (.iload 4, 2) := by decide +kernel
theorem d_VF_spread_43 : decode b_VF_spread 43 = .ok (.aaload, 1) := by decide +kernel
theorem d_VF_spread_44 : decode b_VF_spread 44 = .ok (.getfield 97, 3) := by decide +kernel
theorem d_VF_spread_47 : decode b_VF_spread 47 = .ok (.ifCond .ne 33, 3) := by decide +kernel
theorem d_VF_spread_50 : decode b_VF_spread 50 = .ok (.iload_n 2, 1) := by decide +kernel
theorem d_VF_spread_51 : decode b_VF_spread 51 = .ok (.aload_n 0, 1) := by decide +kernel
theorem d_VF_spread_52 : decode b_VF_spread 52 = .ok (.getfield 31, 3) := by decide +kernel
theorem d_VF_spread_55 : decode b_VF_spread 55 = .ok (.iload 4, 2) := by decide +kernel
theorem d_VF_spread_57 : decode b_VF_spread 57 = .ok (.aaload, 1) := by decide +kernel
theorem d_VF_spread_58 : decode b_VF_spread 58 = .ok (.getfield 80, 3) := by decide +kernel
theorem d_VF_spread_61 : decode b_VF_spread 61 = .ok (.invokestatic 155, 3) := by decide +kernel
theorem d_VF_spread_64 : decode b_VF_spread 64 = .ok (.istore_n 2, 1) := by decide +kernel
theorem d_VF_spread_65 : decode b_VF_spread 65 = .ok (.iload_n 3, 1) := by decide +kernel
theorem d_VF_spread_66 : decode b_VF_spread 66 = .ok (.aload_n 0, 1) := by decide +kernel
theorem d_VF_spread_67 : decode b_VF_spread 67 = .ok (.getfield 31, 3) := by decide +kernel
theorem d_VF_spread_70 : decode b_VF_spread 70 = .ok (.iload 4, 2) := by decide +kernel
theorem d_VF_spread_72 : decode b_VF_spread 72 = .ok (.aaload, 1) := by decide +kernel
theorem d_VF_spread_73 : decode b_VF_spread 73 = .ok (.getfield 80, 3) := by decide +kernel
theorem d_VF_spread_76 : decode b_VF_spread 76 = .ok (.invokestatic 161, 3) := by decide +kernel
theorem d_VF_spread_79 : decode b_VF_spread 79 = .ok (.istore_n 3, 1) := by decide +kernel
theorem d_VF_spread_80 : decode b_VF_spread 80 = .ok (.iinc 4 1, 3) := by decide +kernel
theorem d_VF_spread_83 : decode b_VF_spread 83 = .ok (.goto (-55), 3) := by decide +kernel
theorem d_VF_spread_86 : decode b_VF_spread 86 = .ok (.iload_n 3, 1) := by decide +kernel
theorem d_VF_spread_87 : decode b_VF_spread 87 = .ok (.iload_n 2, 1) := by decide +kernel
theorem d_VF_spread_88 : decode b_VF_spread 88 = .ok (.isub, 1) := by decide +kernel
theorem d_VF_spread_89 : decode b_VF_spread 89 = .ok (.ireturn, 1) := by decide +kernel
theorem d_VF_alike_0 : decode b_VF_alike 0 = .ok (.aload_n 0, 1) := by decide +kernel
theorem d_VF_alike_1 : decode b_VF_alike 1 = .ok (.invokevirtual 152, 3) := by decide +kernel
theorem d_VF_alike_4 : decode b_VF_alike 4 = .ok (.istore_n 1, 1) := by decide +kernel
theorem d_VF_alike_5 : decode b_VF_alike 5 = .ok (.iload_n 1, 1) := by decide +kernel
theorem d_VF_alike_6 : decode b_VF_alike 6 = .ok (.ifCond .ge 5, 3) := by decide +kernel
theorem d_VF_alike_9 : decode b_VF_alike 9 = .ok (.iconst 1, 1) := by decide +kernel
theorem d_VF_alike_10 : decode b_VF_alike 10 = .ok (.ireturn, 1) := by decide +kernel
theorem d_VF_alike_11 : decode b_VF_alike 11 = .ok (.iload_n 1, 1) := by decide +kernel
theorem d_VF_alike_12 : decode b_VF_alike 12 = .ok (.iconst 1, 1) := by decide +kernel
theorem d_VF_alike_13 : decode b_VF_alike 13 = .ok (.iadd, 1) := by decide +kernel
theorem d_VF_alike_14 : decode b_VF_alike 14 = .ok (.istore_n 2, 1) := by decide +kernel
theorem d_VF_alike_15 : decode b_VF_alike 15 = .ok (.iload_n 2, 1) := by decide +kernel
theorem d_VF_alike_16 : decode b_VF_alike 16 = .ok (.aload_n 0, 1) := by decide +kernel
theorem d_VF_alike_17 : decode b_VF_alike 17 = .ok (.getfield 13, 3) := by decide +kernel
theorem d_VF_alike_20 : decode b_VF_alike 20 = .ok (.if_icmp .ge 41, 3) := by decide +kernel
theorem d_VF_alike_23 : decode b_VF_alike 23 = .ok (.aload_n 0, 1) := by decide +kernel
theorem d_VF_alike_24 : decode b_VF_alike 24 = .ok (.getfield 31, 3) := by decide +kernel
theorem d_VF_alike_27 : decode b_VF_alike 27 = .ok (.iload_n 2, 1) := by decide +kernel
theorem d_VF_alike_28 : decode b_VF_alike 28 = .ok (.aaload, 1) := by decide +kernel
theorem d_VF_alike_29 : decode b_VF_alike 29 = .ok (.getfield 97, 3) := by decide +kernel
theorem d_VF_alike_32 : decode b_VF_alike 32 = .ok (.ifCond .ne 23, 3) := by decide +kernel
theorem d_VF_alike_35 : decode b_VF_alike 35 = .ok (.aload_n 0, 1) := by decide +kernel
theorem d_VF_alike_36 : decode b_VF_alike 36 = .ok (.getfield 31, 3) := by decide +kernel
theorem d_VF_alike_39 : decode b_VF_alike 39 = .ok (.iload_n 2, 1) := by decide +kernel
theorem d_VF_alike_40 : decode b_VF_alike 40 = .ok (.aaload, 1) := by decide +kernel
theorem d_VF_alike_41 : decode b_VF_alike 41 = .ok (.aload_n 0, 1) := by decide +kernel
theorem d_VF_alike_42 : decode b_VF_alike 42 = .ok (.getfield 31, 3) := by decide +kernel
theorem d_VF_alike_45 : decode b_VF_alike 45 = .ok (.iload_n 1, 1) := by decide +kernel
theorem d_VF_alike_46 : decode b_VF_alike 46 = .ok (.aaload, 1) := by decide +kernel
theorem d_VF_alike_47 : decode b_VF_alike 47 = .ok (.invokevirtual 164, 3) := by decide +kernel
theorem d_VF_alike_50 : decode b_VF_alike 50 = .ok (.ifCond .ne 5, 3) := by decide +kernel
theorem d_VF_alike_53 : decode b_VF_alike 53 = .ok (.iconst 0, 1) := by decide +kernel
theorem d_VF_alike_54 : decode b_VF_alike 54 = .ok (.ireturn, 1) := by decide +kernel
theorem d_VF_alike_55 : decode b_VF_alike 55 = .ok (.iinc 2 1, 3) := by decide +kernel
theorem d_VF_alike_58 : decode b_VF_alike 58 = .ok (.goto (-43), 3) := by decide +kernel
theorem d_VF_alike_61 : decode b_VF_alike 61 = .ok (.iconst 1, 1) := by decide +kernel
theorem d_VF_alike_62 : decode b_VF_alike 62 = .ok (.ireturn, 1) := by decide +kernel
theorem d_VF_solo_0 : decode b_VF_solo 0 = .ok (.iload_n 1, 1) := by decide +kernel
theorem d_VF_solo_1 : decode b_VF_solo 1 = .ok (.invokestatic 103, 3) := by decide +kernel
theorem d_VF_solo_4 : decode b_VF_solo 4 = .ok (.ifCond .eq 12, 3) := by decide +kernel
theorem d_VF_solo_7 : decode b_VF_solo 7 = .ok (.aload_n 0, 1) := by decide +kernel
theorem d_VF_solo_8 : decode b_VF_solo 8 = .ok (.getfield 59, 3) := by decide +kernel
theorem d_VF_solo_11 : decode b_VF_solo 11 = .ok (.iload_n 1, 1) := by decide +kernel
theorem d_VF_solo_12 : decode b_VF_solo 12 = .ok (.iaload, 1) := by decide +kernel
theorem d_VF_solo_13 : decode b_VF_solo 13 = .ok (.goto 4, 3) := by decide +kernel
theorem d_VF_solo_16 : decode b_VF_solo 16 = .ok (.iconst 0, 1) := by decide +kernel
theorem d_VF_solo_17 : decode b_VF_solo 17 = .ok (.ireturn, 1) := by decide +kernel
