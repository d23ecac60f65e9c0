theorem d_ND_init_0 : decode b_ND_init 0 = .ok (.aload_n 0, 1) := by decide +kernel
theorem d_ND_init_1 : decode b_ND_init 1 = .ok (.invokespecial 3, 3) := by decide +kernel
theorem d_ND_init_4 : decode b_ND_init 4 = .ok (.aload_n 0, 1) := by decide +kernel
theorem d_ND_init_5 : decode b_ND_init 5 = .ok (.iconst 4, 1) := by decide +kernel
theorem d_ND_init_6 : decode b_ND_init 6 = .ok (.newarray .int, 2) := by decide +kernel
theorem d_ND_init_8 : decode b_ND_init 8 = .ok (.putfield 9, 3) := by decide +kernel
theorem d_ND_init_11 : decode b_ND_init 11 = .ok (.aload_n 0, 1) := by decide +kernel
theorem d_ND_init_12 : decode b_ND_init 12 = .ok (.iconst 0, 1) := by decide +kernel
theorem d_ND_init_13 : decode b_ND_init 13 = .ok (.putfield 15, 3) := by decide +kernel
theorem d_ND_init_16 : decode b_ND_init 16 = .ok (.aload_n 0, 1) := by decide +kernel
theorem d_ND_init_17 : decode b_ND_init 17 = .ok (.iload_n 1, 1) := by decide +kernel
theorem d_ND_init_18 : decode b_ND_init 18 = .ok (.putfield 19, 3) := by decide +kernel
theorem d_ND_init_21 : decode b_ND_init 21 = .ok (.aload_n 0, 1) := by decide +kernel
theorem d_ND_init_22 : decode b_ND_init 22 = .ok (.iload_n 2, 1) := by decide +kernel
theorem d_ND_init_23 : decode b_ND_init 23 = .ok (.newarray .int, 2) := by decide +kernel
theorem d_ND_init_25 : decode b_ND_init 25 = .ok (.putfield 22, 3) := by decide +kernel
theorem d_ND_init_28 : decode b_ND_init 28 = .ok (.aload_n 0, 1) := by decide +kernel
theorem d_ND_init_29 : decode b_ND_init 29 = .ok (.iload_n 2, 1) := by decide +kernel
theorem d_ND_init_30 : decode b_ND_init 30 = .ok (.newarray .int, 2) := by decide +kernel
theorem d_ND_init_32 : decode b_ND_init 32 = .ok (.putfield 25, 3) := by decide +kernel
theorem d_ND_init_35 : decode b_ND_init 35 = .ok (.aload_n 0, 1) := by decide +kernel
theorem d_ND_init_36 : decode b_ND_init 36 = .ok (.iload_n 2, 1) := by decide +kernel
theorem d_ND_init_37 : decode b_ND_init 37 = .ok (.newarray .int, 2) := by decide +kernel
theorem d_ND_init_39 : decode b_ND_init 39 = .ok (.putfield 28, 3) := by decide +kernel
theorem d_ND_init_42 : decode b_ND_init 42 = .ok (.aload_n 0, 1) := by decide +kernel
theorem d_ND_init_43 : decode b_ND_init 43 = .ok (.iload_n 2, 1) := by decide +kernel
theorem d_ND_init_44 : decode b_ND_init 44 = .ok (.newarray .int, 2) := by decide +kernel
theorem d_ND_init_46 : decode b_ND_init 46 = .ok (.putfield 31, 3) := by decide +kernel
theorem d_ND_init_49 : decode b_ND_init 49 = .ok (.aload_n 0, 1) := by decide +kernel
theorem d_ND_init_50 : decode b_ND_init 50 = .ok (.iconst 1, 1) := by decide +kernel
theorem d_ND_init_51 : decode b_ND_init 51 = .ok (.iload_n 2, 1) := by decide +kernel
theorem d_ND_init_52 : decode b_ND_init 52 = .ok (.ishl, 1) := by decide +kernel
theorem d_ND_init_53 : decode b_ND_init 53 = .ok (.iconst 1, 1) := by decide +kernel
theorem d_ND_init_54 : decode b_ND_init 54 = .ok (.isub, 1) := by decide +kernel
theorem d_ND_init_55 : decode b_ND_init 55 = .ok (.putfield 34, 3) := by decide +kernel
theorem d_ND_init_58 : decode b_ND_init 58 = .ok (.return_, 1) := by decide +kernel
theorem d_RL_init_0 : decode b_RL_init 0 = .ok (.aload_n 0, 1) := by decide +kernel
theorem d_RL_init_1 : decode b_RL_init 1 = .ok (.invokespecial 1, 3) := by decide +kernel
theorem d_RL_init_4 : decode b_RL_init 4 = .ok (.aload_n 0, 1) := by decide +kernel
theorem d_RL_init_5 : decode b_RL_init 5 = .ok (.aload_n 1, 1) := by decide +kernel
theorem d_RL_init_6 : decode b_RL_init 6 = .ok (.putfield 7, 3) := by decide +kernel
theorem d_RL_init_9 : decode b_RL_init 9 = .ok (.aload_n 0, 1) := by decide +kernel
theorem d_RL_init_10 : decode b_RL_init 10 = .ok (.iload_n 2, 1) := by decide +kernel
theorem d_RL_init_11 : decode b_RL_init 11 = .ok (.putfield 13, 3) := by decide +kernel
theorem d_RL_init_14 : decode b_RL_init 14 = .ok (.iconst 1, 1) := by decide +kernel
theorem d_RL_init_15 : decode b_RL_init 15 = .ok (.istore_n 3, 1) := by decide +kernel
theorem d_RL_init_16 : decode b_RL_init 16 = .ok (.iconst 0, 1) := by decide +kernel
theorem d_RL_init_17 : decode b_RL_init 17 = .ok (.istore 4, 2) := by decide +kernel
theorem d_RL_init_19 : decode b_RL_init 19 = .ok (.iload 4, 2) := by decide +kernel
theorem d_RL_init_21 : decode b_RL_init 21 = .ok (.iload_n 2, 1) := by decide +kernel
theorem d_RL_init_22 : decode b_RL_init 22 = .ok (.if_icmp .ge 16, 3) := by decide +kernel
theorem d_RL_init_25 : decode b_RL_init 25 = .ok (.iload_n 3, 1) := by decide +kernel
theorem d_RL_init_26 : decode b_RL_init 26 = .ok (.aload_n 1, 1) := by decide +kernel
theorem d_RL_init_27 : decode b_RL_init 27 = .ok (.arraylength, 1) := by decide +kernel
theorem d_RL_init_28 : decode b_RL_init 28 = .ok (.imul, 1) := by decide +kernel
theorem d_RL_init_29 : decode b_RL_init 29 = .ok (.iconst 1, 1) := by decide +kernel
theorem d_RL_init_30 : decode b_RL_init 30 = .ok (.iadd, 1) := by decide +kernel
theorem d_RL_init_31 : decode b_RL_init 31 = .ok (.istore_n 3, 1) := by decide +kernel
theorem d_RL_init_32 : decode b_RL_init 32 = .ok (.iinc 4 1, 3) := by decide +kernel
theorem d_RL_init_35 : decode b_RL_init 35 = .ok (.goto (-16), 3) := by decide +kernel
theorem d_RL_init_38 : decode b_RL_init 38 = .ok (.aload_n 0, 1) := by decide +kernel
theorem d_RL_init_39 : decode b_RL_init 39 = .ok (.iload_n 3, 1) := by decide +kernel
theorem d_RL_init_40 : decode b_RL_init 40 = .ok (.aload_n 1, 1) := by decide +kernel
theorem d_RL_init_41 : decode b_RL_init 41 = .ok (.arraylength, 1) := by decide +kernel
theorem d_RL_init_42 : decode b_RL_init 42 = .ok (.imul, 1) := by decide +kernel
theorem d_RL_init_43 : decode b_RL_init 43 = .ok (.newarray .int, 2) := by decide +kernel
theorem d_RL_init_45 : decode b_RL_init 45 = .ok (.putfield 17, 3) := by decide +kernel
theorem d_RL_init_48 : decode b_RL_init 48 = .ok (.aload_n 0, 1) := by decide +kernel
theorem d_RL_init_49 : decode b_RL_init 49 = .ok (.iload_n 2, 1) := by decide +kernel
theorem d_RL_init_50 : decode b_RL_init 50 = .ok (.iconst 1, 1) := by decide +kernel
theorem d_RL_init_51 : decode b_RL_init 51 = .ok (.iadd, 1) := by decide +kernel
theorem d_RL_init_52 : decode b_RL_init 52 = .ok (.aload_n 1, 1) := by decide +kernel
theorem d_RL_init_53 : decode b_RL_init 53 = .ok (.arraylength, 1) := by decide +kernel
theorem d_RL_init_54 : decode b_RL_init 54 = .ok (.multianewarray 21 2, 4) := by decide +kernel
theorem d_RL_init_58 : decode b_RL_init 58 = .ok (.putfield 23, 3) := by decide +kernel
theorem d_RL_init_61 : decode b_RL_init 61 = .ok (.return_, 1) := by decide +kernel
theorem d_TK_init_0 : decode b_TK_init 0 = .ok (.aload_n 0, 1) := by decide +kernel
theorem d_TK_init_1 : decode b_TK_init 1 = .ok (.invokespecial 1, 3) := by decide +kernel
theorem d_TK_init_4 : decode b_TK_init 4 = .ok (.aload_n 0, 1) := by decide +kernel
theorem d_TK_init_5 : decode b_TK_init 5 = .ok (.bipush 12, 2) := by decide +kernel
theorem d_TK_init_7 : decode b_TK_init 7 = .ok (.newarray .int, 2) := by decide +kernel
theorem d_TK_init_9 : decode b_TK_init 9 = .ok (.putfield 9, 3) := by decide +kernel
theorem d_TK_init_12 : decode b_TK_init 12 = .ok (.aload_n 0, 1) := by decide +kernel
theorem d_TK_init_13 : decode b_TK_init 13 = .ok (.bipush 12, 2) := by decide +kernel
theorem d_TK_init_15 : decode b_TK_init 15 = .ok (.newarray .int, 2) := by decide +kernel
theorem d_TK_init_17 : decode b_TK_init 17 = .ok (.putfield 13, 3) := by decide +kernel
theorem d_TK_init_20 : decode b_TK_init 20 = .ok (.return_, 1) := by decide +kernel
theorem d_SM_init_0 : decode b_SM_init 0 = .ok (.aload_n 0, 1) := by decide +kernel
theorem d_SM_init_1 : decode b_SM_init 1 = .ok (.invokespecial 3, 3) := by decide +kernel
theorem d_SM_init_4 : decode b_SM_init 4 = .ok (.aload_n 0, 1) := by decide +kernel
theorem d_SM_init_5 : decode b_SM_init 5 = .ok (.bipush 6, 2) := by decide +kernel
theorem d_SM_init_7 : decode b_SM_init 7 = .ok (.newarray .int, 2) := by decide +kernel
theorem d_SM_init_9 : decode b_SM_init 9 = .ok (.putfield 11, 3) := by decide +kernel
theorem d_SM_init_12 : decode b_SM_init 12 = .ok (.return_, 1) := by decide +kernel
theorem d_TK_append_0 : decode b_TK_append 0 = .ok (.aload_n 0, 1) := by decide +kernel
theorem d_TK_append_1 : decode b_TK_append 1 = .ok (.getfield 16, 3) := by decide +kernel
theorem d_TK_append_4 : decode b_TK_append 4 = .ok (.bipush 12, 2) := by decide +kernel
theorem d_TK_append_6 : decode b_TK_append 6 = .ok (.if_icmp .lt 5, 3) := by decide +kernel
theorem d_TK_append_9 : decode b_TK_append 9 = .ok (.iconst 0, 1) := by decide +kernel
theorem d_TK_append_10 : decode b_TK_append 10 = .ok (.ireturn, 1) := by decide +kernel
theorem d_TK_append_11 : decode b_TK_append 11 = .ok (.aload_n 0, 1) := by decide +kernel
theorem d_TK_append_12 : decode b_TK_append 12 = .ok (.getfield 9, 3) := by decide +kernel
theorem d_TK_append_15 : decode b_TK_append 15 = .ok (.aload_n 0, 1) := by decide +kernel
theorem d_TK_append_16 : decode b_TK_append 16 = .ok (.getfield 16, 3) := by decide +kernel
theorem d_TK_append_19 : decode b_TK_append 19 = .ok (.iload_n 1, 1) := by decide +kernel
theorem d_TK_append_20 : decode b_TK_append 20 = .ok (.iastore, 1) := by decide +kernel
theorem d_TK_append_21 : decode b_TK_append 21 = .ok (.aload_n 0, 1) := by decide +kernel
theorem d_TK_append_22 : decode b_TK_append 22 = .ok (.getfield 13, 3) := by decide +kernel
theorem d_TK_append_25 : decode b_TK_append 25 = .ok (.aload_n 0, 1) := by decide +kernel
theorem d_TK_append_26 : decode b_TK_append 26 = .ok (.getfield 16, 3) := by decide +kernel
theorem d_TK_append_29 : decode b_TK_append 29 = .ok (.iload_n 2, 1) := by decide +kernel
theorem d_TK_append_30 : decode b_TK_append 30 = .ok (.iastore, 1) := by decide +kernel
theorem d_TK_append_31 : decode b_TK_append 31 = .ok (.aload_n 0, 1) := by decide +kernel
theorem d_TK_append_32 : decode b_TK_append 32 = .ok (.dup, 1) := by decide +kernel
theorem d_TK_append_33 : decode b_TK_append 33 = .ok (.getfield 16, 3) := by decide +kernel
theorem d_TK_append_36 : decode b_TK_append 36 = .ok (.iconst 1, 1) := by decide +kernel
theorem d_TK_append_37 : decode b_TK_append 37 = .ok (.iadd, 1) := by decide +kernel
theorem d_TK_append_38 : decode b_TK_append 38 = .ok (.putfield 16, 3) := by decide +kernel
theorem d_TK_append_41 : decode b_TK_append 41 = .ok (.iconst 1, 1) := by decide +kernel
theorem d_TK_append_42 : decode b_TK_append 42 = .ok (.ireturn, 1) := by decide +kernel
theorem d_TK_empty_0 : decode b_TK_empty 0 = .ok (.aload_n 0, 1) := by decide +kernel
theorem d_TK_empty_1 : decode b_TK_empty 1 = .ok (.getfield 16, 3) := by decide +kernel
theorem d_TK_empty_4 : decode b_TK_empty 4 = .ok (.istore_n 1, 1) := by decide +kernel
theorem d_TK_empty_5 : decode b_TK_empty 5 = .ok (.aload_n 0, 1) := by decide +kernel
theorem d_TK_empty_6 : decode b_TK_empty 6 = .ok (.iconst 0, 1) := by decide +kernel
theorem d_TK_empty_7 : decode b_TK_empty 7 = .ok (.putfield 16, 3) := by decide +kernel
theorem d_TK_empty_10 : decode b_TK_empty 10 = .ok (.aload_n 0, 1) := by decide +kernel
theorem d_TK_empty_11 : decode b_TK_empty 11 = .ok (.iconst 0, 1) := by decide +kernel
theorem d_TK_empty_12 : decode b_TK_empty 12 = .ok (.putfield 20, 3) := by decide +kernel
theorem d_TK_empty_15 : decode b_TK_empty 15 = .ok (.iload_n 1, 1) := by decide +kernel
theorem d_TK_empty_16 : decode b_TK_empty 16 = .ok (.ireturn, 1) := by decide +kernel
theorem d_ND_canHear_0 : decode b_ND_canHear 0 = .ok (.aload_n 0, 1) := by decide +kernel
theorem d_ND_canHear_1 : decode b_ND_canHear 1 = .ok (.getfield 34, 3) := by decide +kernel
theorem d_ND_canHear_4 : decode b_ND_canHear 4 = .ok (.aload_n 1, 1) := by decide +kernel
theorem d_ND_canHear_5 : decode b_ND_canHear 5 = .ok (.getfield 19, 3) := by decide +kernel
theorem d_ND_canHear_8 : decode b_ND_canHear 8 = .ok (.invokestatic 53, 3) := by decide +kernel
theorem d_ND_canHear_11 : decode b_ND_canHear 11 = .ok (.ifCond .eq 11, 3) := by decide +kernel
theorem d_ND_canHear_14 : decode b_ND_canHear 14 = .ok (.aload_n 1, 1) := by decide +kernel
theorem d_ND_canHear_15 : decode b_ND_canHear 15 = .ok (.getfield 15, 3) := by decide +kernel
theorem d_ND_canHear_18 : decode b_ND_canHear 18 = .ok (.iconst 1, 1) := by decide +kernel
theorem d_ND_canHear_19 : decode b_ND_canHear 19 = .ok (.if_icmp .ne 5, 3) := by decide +kernel
theorem d_ND_canHear_22 : decode b_ND_canHear 22 = .ok (.iconst 0, 1) := by decide +kernel
theorem d_ND_canHear_23 : decode b_ND_canHear 23 = .ok (.ireturn, 1) := by decide +kernel
theorem d_ND_canHear_24 : decode b_ND_canHear 24 = .ok (.aload_n 0, 1) := by decide +kernel
theorem d_ND_canHear_25 : decode b_ND_canHear 25 = .ok (.getfield 57, 3) := by decide +kernel
theorem d_ND_canHear_28 : decode b_ND_canHear 28 = .ok (.aload_n 1, 1) := by decide +kernel
theorem d_ND_canHear_29 : decode b_ND_canHear 29 = .ok (.getfield 57, 3) := by decide +kernel
theorem d_ND_canHear_32 : decode b_ND_canHear 32 = .ok (.isub, 1) := by decide +kernel
theorem d_ND_canHear_33 : decode b_ND_canHear 33 = .ok (.aload_n 0, 1) := by decide +kernel
theorem d_ND_canHear_34 : decode b_ND_canHear 34 = .ok (.getfield 22, 3) := by decide +kernel
theorem d_ND_canHear_37 : decode b_ND_canHear 37 = .ok (.aload_n 1, 1) := by decide +kernel
theorem d_ND_canHear_38 : decode b_ND_canHear 38 = .ok (.getfield 19, 3) := by decide +kernel
theorem d_ND_canHear_41 : decode b_ND_canHear 41 = .ok (.iaload, 1) := by decide +kernel
theorem d_ND_canHear_42 : decode b_ND_canHear 42 = .ok (.iadd, 1) := by decide +kernel
theorem d_ND_canHear_43 : decode b_ND_canHear 43 = .ok (.iload_n 2, 1) := by decide +kernel
theorem d_ND_canHear_44 : decode b_ND_canHear 44 = .ok (.invokestatic 60, 3) := by decide +kernel
theorem d_ND_canHear_47 : decode b_ND_canHear 47 = .ok (.ireturn, 1) := by decide +kernel
theorem d_RL_beginFrame_0 : decode b_RL_beginFrame 0 = .ok (.aload_n 0, 1) := by decide +kernel
theorem d_RL_beginFrame_1 : decode b_RL_beginFrame 1 = .ok (.iload_n 1, 1) := by decide +kernel
theorem d_RL_beginFrame_2 : decode b_RL_beginFrame 2 = .ok (.putfield 26, 3) := by decide +kernel
theorem d_RL_beginFrame_5 : decode b_RL_beginFrame 5 = .ok (.aload_n 0, 1) := by decide +kernel
theorem d_RL_beginFrame_6 : decode b_RL_beginFrame 6 = .ok (.iconst 0, 1) := by decide +kernel
theorem d_RL_beginFrame_7 : decode b_RL_beginFrame 7 = .ok (.putfield 29, 3) := by decide +kernel
theorem d_RL_beginFrame_10 : decode b_RL_beginFrame 10 = .ok (.iconst 0, 1) := by decide +kernel
theorem d_RL_beginFrame_11 : decode b_RL_beginFrame 11 = .ok (.istore_n 2, 1) := by decide +kernel
theorem d_RL_beginFrame_12 : decode b_RL_beginFrame 12 = .ok (.iload_n 2, 1) := by decide +kernel
theorem d_RL_beginFrame_13 : decode b_RL_beginFrame 13 = .ok (.aload_n 0, 1) := by decide +kernel
theorem d_RL_beginFrame_14 : decode b_RL_beginFrame 14 = .ok (.getfield 7, 3) := by decide +kernel
theorem d_RL_beginFrame_17 : decode b_RL_beginFrame 17 = .ok (.arraylength, 1) := by decide +kernel
theorem d_RL_beginFrame_18 : decode b_RL_beginFrame 18 = .ok (.if_icmp .ge 33, 3) := by decide +kernel
theorem d_RL_beginFrame_21 : decode b_RL_beginFrame 21 = .ok (.aload_n 0, 1) := by decide +kernel
theorem d_RL_beginFrame_22 : decode b_RL_beginFrame 22 = .ok (.aload_n 0, 1) := by decide +kernel
theorem d_RL_beginFrame_23 : decode b_RL_beginFrame 23 = .ok (.getfield 29, 3) := by decide +kernel
theorem d_RL_beginFrame_26 : decode b_RL_beginFrame 26 = .ok (.aload_n 0, 1) := by decide +kernel
theorem d_RL_beginFrame_27 : decode b_RL_beginFrame 27 = .ok (.getfield 7, 3) := by decide +kernel
theorem d_RL_beginFrame_30 : decode b_RL_beginFrame 30 = .ok (.iload_n 2, 1) := by decide +kernel
theorem d_RL_beginFrame_31 : decode b_RL_beginFrame 31 = .ok (.aaload, 1) := by decide +kernel
theorem d_RL_beginFrame_32 : decode b_RL_beginFrame 32 = .ok (.aload_n 0, 1) := by decide +kernel
theorem d_RL_beginFrame_33 : decode b_RL_beginFrame 33 = .ok (.getfield 13, 3) := by decide +kernel
theorem d_RL_beginFrame_36 : decode b_RL_beginFrame 36 = .ok (.invokevirtual 32, 3) := by decide +kernel
theorem d_RL_beginFrame_39 : decode b_RL_beginFrame 39 = .ok (.invokestatic 38, 3) := by decide +kernel
theorem d_RL_beginFrame_42 : decode b_RL_beginFrame 42 = .ok (.putfield 29, 3) := by decide +kernel
theorem d_RL_beginFrame_45 : decode b_RL_beginFrame 45 = .ok (.iinc 2 1, 3) := by decide +kernel
theorem d_RL_beginFrame_48 : decode b_RL_beginFrame 48 = .ok (.goto (-36), 3) := by decide +kernel
theorem d_RL_beginFrame_51 : decode b_RL_beginFrame 51 = .ok (.return_, 1) := by decide +kernel
theorem d_ND_bearable_0 : decode b_ND_bearable 0 = .ok (.iload_n 1, 1) := by decide +kernel
theorem d_ND_bearable_1 : decode b_ND_bearable 1 = .ok (.aload_n 0, 1) := by decide +kernel
theorem d_ND_bearable_2 : decode b_ND_bearable 2 = .ok (.invokevirtual 43, 3) := by decide +kernel
theorem d_ND_bearable_5 : decode b_ND_bearable 5 = .ok (.iconst 1, 1) := by decide +kernel
theorem d_ND_bearable_6 : decode b_ND_bearable 6 = .ok (.isub, 1) := by decide +kernel
theorem d_ND_bearable_7 : decode b_ND_bearable 7 = .ok (.iconst 3, 1) := by decide +kernel
theorem d_ND_bearable_8 : decode b_ND_bearable 8 = .ok (.idiv, 1) := by decide +kernel
theorem d_ND_bearable_9 : decode b_ND_bearable 9 = .ok (.invokestatic 47, 3) := by decide +kernel
theorem d_ND_bearable_12 : decode b_ND_bearable 12 = .ok (.ireturn, 1) := by decide +kernel
theorem d_ND_memberCount_0 : decode b_ND_memberCount 0 = .ok (.aload_n 0, 1) := by decide +kernel
theorem d_ND_memberCount_1 : decode b_ND_memberCount 1 = .ok (.getfield 34, 3) := by decide +kernel
theorem d_ND_memberCount_4 : decode b_ND_memberCount 4 = .ok (.invokestatic 37, 3) := by decide +kernel
theorem d_ND_memberCount_7 : decode b_ND_memberCount 7 = .ok (.ireturn, 1) := by decide +kernel
theorem d_RL_spreadOut_0 : decode b_RL_spreadOut 0 = .ok (.aload_n 0, 1) := by decide +kernel
theorem d_RL_spreadOut_1 : decode b_RL_spreadOut 1 = .ok (.iload_n 1, 1) := by decide +kernel
theorem d_RL_spreadOut_2 : decode b_RL_spreadOut 2 = .ok (.putfield 44, 3) := by decide +kernel
theorem d_RL_spreadOut_5 : decode b_RL_spreadOut 5 = .ok (.aload_n 0, 1) := by decide +kernel
theorem d_RL_spreadOut_6 : decode b_RL_spreadOut 6 = .ok (.iload_n 2, 1) := by decide +kernel
theorem d_RL_spreadOut_7 : decode b_RL_spreadOut 7 = .ok (.putfield 47, 3) := by decide +kernel
theorem d_RL_spreadOut_10 : decode b_RL_spreadOut 10 = .ok (.aload_n 0, 1) := by decide +kernel
theorem d_RL_spreadOut_11 : decode b_RL_spreadOut 11 = .ok (.iload_n 1, 1) := by decide +kernel
theorem d_RL_spreadOut_12 : decode b_RL_spreadOut 12 = .ok (.iload_n 2, 1) := by decide +kernel
theorem d_RL_spreadOut_13 : decode b_RL_spreadOut 13 = .ok (.iconst 0, 1) := by decide +kernel
theorem d_RL_spreadOut_14 : decode b_RL_spreadOut 14 = .ok (.iconst 1, 1) := by decide +kernel
theorem d_RL_spreadOut_15 : decode b_RL_spreadOut 15 = .ok (.iload_n 1, 1) := by decide +kernel
theorem d_RL_spreadOut_16 : decode b_RL_spreadOut 16 = .ok (.ishl, 1) := by decide +kernel
theorem d_RL_spreadOut_17 : decode b_RL_spreadOut 17 = .ok (.aload_n 0, 1) := by decide +kernel
theorem d_RL_spreadOut_18 : decode b_RL_spreadOut 18 = .ok (.getfield 29, 3) := by decide +kernel
theorem d_RL_spreadOut_21 : decode b_RL_spreadOut 21 = .ok (.invokevirtual 50, 3) := by decide +kernel
theorem d_RL_spreadOut_24 : decode b_RL_spreadOut 24 = .ok (.return_, 1) := by decide +kernel
theorem d_RL_send_0 : decode b_RL_send 0 = .ok (.iconst 0, 1) := by decide +kernel
theorem d_RL_send_1 : decode b_RL_send 1 = .ok (.istore 6, 2) := by decide +kernel
theorem d_RL_send_3 : decode b_RL_send 3 = .ok (.iload 6, 2) := by decide +kernel
theorem d_RL_send_5 : decode b_RL_send 5 = .ok (.aload_n 0, 1) := by decide +kernel
theorem d_RL_send_6 : decode b_RL_send 6 = .ok (.getfield 7, 3) := by decide +kernel
theorem d_RL_send_9 : decode b_RL_send 9 = .ok (.arraylength, 1) := by decide +kernel
theorem d_RL_send_10 : decode b_RL_send 10 = .ok (.if_icmp .ge 39, 3) := by decide +kernel
theorem d_RL_send_13 : decode b_RL_send 13 = .ok (.iload 4, 2) := by decide +kernel
theorem d_RL_send_15 : decode b_RL_send 15 = .ok (.iload 6, 2) := by decide +kernel
theorem d_RL_send_17 : decode b_RL_send 17 = .ok (.invokestatic 57, 3) := by decide +kernel
theorem d_RL_send_20 : decode b_RL_send 20 = .ok (.ifCond .ne 23, 3) := by decide +kernel
theorem d_RL_send_23 : decode b_RL_send 23 = .ok (.aload_n 0, 1) := by decide +kernel
theorem d_RL_send_24 : decode b_RL_send 24 = .ok (.getfield 17, 3) := by decide +kernel
theorem d_RL_send_27 : decode b_RL_send 27 = .ok (.aload_n 0, 1) := by decide +kernel
theorem d_RL_send_28 : decode b_RL_send 28 = .ok (.iload_n 3, 1) := by decide +kernel
theorem d_RL_send_29 : decode b_RL_send 29 = .ok (.iload 6, 2) := by decide +kernel
theorem d_RL_send_31 : decode b_RL_send 31 = .ok (.invokevirtual 74, 3) := by decide +kernel
theorem d_RL_send_34 : decode b_RL_send 34 = .ok (.aload_n 0, 1) := by decide +kernel
theorem d_RL_send_35 : decode b_RL_send 35 = .ok (.iload_n 1, 1) := by decide +kernel
theorem d_RL_send_36 : decode b_RL_send 36 = .ok (.iload_n 2, 1) := by decide +kernel
theorem d_RL_send_37 : decode b_RL_send 37 = .ok (.iload 6, 2) := by decide +kernel
theorem d_RL_send_39 : decode b_RL_send 39 = .ok (.invokevirtual 77, 3) := by decide +kernel
theorem d_RL_send_42 : decode b_RL_send 42 = .ok (.iastore, 1) := by decide +kernel
theorem d_RL_send_43 : decode b_RL_send 43 = .ok (.iinc 6 1, 3) := by decide +kernel
theorem d_RL_send_46 : decode b_RL_send 46 = .ok (.goto (-43), 3) := by decide +kernel
theorem d_RL_send_49 : decode b_RL_send 49 = .ok (.iload 5, 2) := by decide +kernel
theorem d_RL_send_51 : decode b_RL_send 51 = .ok (.ifCond .gt 4, 3) := by decide +kernel
theorem d_RL_send_54 : decode b_RL_send 54 = .ok (.return_, 1) := by decide +kernel
theorem d_RL_send_55 : decode b_RL_send 55 = .ok (.iconst 0, 1) := by decide +kernel
theorem d_RL_send_56 : decode b_RL_send 56 = .ok (.istore 6, 2) := by decide +kernel
theorem d_RL_send_58 : decode b_RL_send 58 = .ok (.iload 6, 2) := by decide +kernel
theorem d_RL_send_60 : decode b_RL_send 60 = .ok (.aload_n 0, 1) := by decide +kernel
theorem d_RL_send_61 : decode b_RL_send 61 = .ok (.getfield 7, 3) := by decide +kernel
theorem d_RL_send_64 : decode b_RL_send 64 = .ok (.arraylength, 1) := by decide +kernel
theorem d_RL_send_65 : decode b_RL_send 65 = .ok (.if_icmp .ge 55, 3) := by decide +kernel
theorem d_RL_send_68 : decode b_RL_send 68 = .ok (.iload 4, 2) := by decide +kernel
theorem d_RL_send_70 : decode b_RL_send 70 = .ok (.iload 6, 2) := by decide +kernel
theorem d_RL_send_72 : decode b_RL_send 72 = .ok (.invokestatic 57, 3) := by decide +kernel
theorem d_RL_send_75 : decode b_RL_send 75 = .ok (.ifCond .ne 39, 3) := by decide +kernel
theorem d_RL_send_78 : decode b_RL_send 78 = .ok (.aload_n 0, 1) := by decide +kernel
theorem d_RL_send_79 : decode b_RL_send 79 = .ok (.iload 6, 2) := by decide +kernel
theorem d_RL_send_81 : decode b_RL_send 81 = .ok (.aload_n 0, 1) := by decide +kernel
theorem d_RL_send_82 : decode b_RL_send 82 = .ok (.getfield 17, 3) := by decide +kernel
theorem d_RL_send_85 : decode b_RL_send 85 = .ok (.aload_n 0, 1) := by decide +kernel
theorem d_RL_send_86 : decode b_RL_send 86 = .ok (.iload_n 3, 1) := by decide +kernel
theorem d_RL_send_87 : decode b_RL_send 87 = .ok (.iload 6, 2) := by decide +kernel
theorem d_RL_send_89 : decode b_RL_send 89 = .ok (.invokevirtual 74, 3) := by decide +kernel
theorem d_RL_send_92 : decode b_RL_send 92 = .ok (.iaload, 1) := by decide +kernel
theorem d_RL_send_93 : decode b_RL_send 93 = .ok (.aload_n 0, 1) := by decide +kernel
theorem d_RL_send_94 : decode b_RL_send 94 = .ok (.iload_n 3, 1) := by decide +kernel
theorem d_RL_send_95 : decode b_RL_send 95 = .ok (.iload 6, 2) := by decide +kernel
theorem d_RL_send_97 : decode b_RL_send 97 = .ok (.invokevirtual 80, 3) := by decide +kernel
theorem d_RL_send_100 : decode b_RL_send 100 = .ok (.iload 4, 2) := by decide +kernel
theorem d_RL_send_102 : decode b_RL_send 102 = .ok (.iconst 1, 1) := by decide +kernel
theorem d_RL_send_103 : decode b_RL_send 103 = .ok (.iload 6, 2) := by decide +kernel
theorem d_RL_send_105 : decode b_RL_send 105 = .ok (.ishl, 1) := by decide +kernel
theorem d_RL_send_106 : decode b_RL_send 106 = .ok (.ior, 1) := by decide +kernel
theorem d_RL_send_107 : decode b_RL_send 107 = .ok (.iload 5, 2) := by decide +kernel
theorem d_RL_send_109 : decode b_RL_send 109 = .ok (.iconst 1, 1) := by decide +kernel
theorem d_RL_send_110 : decode b_RL_send 110 = .ok (.isub, 1) := by decide +kernel
theorem d_RL_send_111 : decode b_RL_send 111 = .ok (.invokevirtual 50, 3) := by decide +kernel
theorem d_RL_send_114 : decode b_RL_send 114 = .ok (.iinc 6 1, 3) := by decide +kernel
theorem d_RL_send_117 : decode b_RL_send 117 = .ok (.goto (-59), 3) := by decide +kernel
theorem d_RL_send_120 : decode b_RL_send 120 = .ok (.return_, 1) := by decide +kernel
theorem d_RL_placeOf_0 : decode b_RL_placeOf 0 = .ok (.iload_n 1, 1) := by decide +kernel
theorem d_RL_placeOf_1 : decode b_RL_placeOf 1 = .ok (.aload_n 0, 1) := by decide +kernel
theorem d_RL_placeOf_2 : decode b_RL_placeOf 2 = .ok (.getfield 7, 3) := by decide +kernel
theorem d_RL_placeOf_5 : decode b_RL_placeOf 5 = .ok (.arraylength, 1) := by decide +kernel
theorem d_RL_placeOf_6 : decode b_RL_placeOf 6 = .ok (.imul, 1) := by decide +kernel
theorem d_RL_placeOf_7 : decode b_RL_placeOf 7 = .ok (.iload_n 2, 1) := by decide +kernel
theorem d_RL_placeOf_8 : decode b_RL_placeOf 8 = .ok (.iadd, 1) := by decide +kernel
theorem d_RL_placeOf_9 : decode b_RL_placeOf 9 = .ok (.ireturn, 1) := by decide +kernel
theorem d_RL_got_0 : decode b_RL_got 0 = .ok (.aload_n 0, 1) := by decide +kernel
theorem d_RL_got_1 : decode b_RL_got 1 = .ok (.getfield 7, 3) := by decide +kernel
theorem d_RL_got_4 : decode b_RL_got 4 = .ok (.iload_n 3, 1) := by decide +kernel
theorem d_RL_got_5 : decode b_RL_got 5 = .ok (.aaload, 1) := by decide +kernel
theorem d_RL_got_6 : decode b_RL_got 6 = .ok (.getfield 67, 3) := by decide +kernel
theorem d_RL_got_9 : decode b_RL_got 9 = .ok (.iload_n 1, 1) := by decide +kernel
theorem d_RL_got_10 : decode b_RL_got 10 = .ok (.invokestatic 57, 3) := by decide +kernel
theorem d_RL_got_13 : decode b_RL_got 13 = .ok (.ifCond .eq 21, 3) := by decide +kernel
theorem d_RL_got_16 : decode b_RL_got 16 = .ok (.aload_n 0, 1) := by decide +kernel
theorem d_RL_got_17 : decode b_RL_got 17 = .ok (.getfield 7, 3) := by decide +kernel
theorem d_RL_got_20 : decode b_RL_got 20 = .ok (.iload_n 1, 1) := by decide +kernel
theorem d_RL_got_21 : decode b_RL_got 21 = .ok (.aaload, 1) := by decide +kernel
theorem d_RL_got_22 : decode b_RL_got 22 = .ok (.iload_n 2, 1) := by decide +kernel
theorem d_RL_got_23 : decode b_RL_got 23 = .ok (.iload_n 3, 1) := by decide +kernel
theorem d_RL_got_24 : decode b_RL_got 24 = .ok (.aload_n 0, 1) := by decide +kernel
theorem d_RL_got_25 : decode b_RL_got 25 = .ok (.getfield 26, 3) := by decide +kernel
theorem d_RL_got_28 : decode b_RL_got 28 = .ok (.invokevirtual 70, 3) := by decide +kernel
theorem d_RL_got_31 : decode b_RL_got 31 = .ok (.goto 4, 3) := by decide +kernel
theorem d_RL_got_34 : decode b_RL_got 34 = .ok (.iconst 0, 1) := by decide +kernel
theorem d_RL_got_35 : decode b_RL_got 35 = .ok (.ireturn, 1) := by decide +kernel
theorem d_ND_says_0 : decode b_ND_says 0 = .ok (.aload_n 0, 1) := by decide +kernel
theorem d_ND_says_1 : decode b_ND_says 1 = .ok (.getfield 15, 3) := by decide +kernel
theorem d_ND_says_4 : decode b_ND_says 4 = .ok (.tableswitch 80 2 5 #[32, 37, 54, 65], 32) := by decide +kernel
theorem d_ND_says_36 : decode b_ND_says 36 = .ok (.aload_n 0, 1) := by decide +kernel
theorem d_ND_says_37 : decode b_ND_says 37 = .ok (.getfield 63, 3) := by decide +kernel
theorem d_ND_says_40 : decode b_ND_says 40 = .ok (.ireturn, 1) := by decide +kernel
theorem d_ND_says_41 : decode b_ND_says 41 = .ok (.iload_n 2, 1) := by decide +kernel
theorem d_ND_says_42 : decode b_ND_says 42 = .ok (.iconst 2, 1) := by decide +kernel
theorem d_ND_says_43 : decode b_ND_says 43 = .ok (.irem, 1) := by decide +kernel
theorem d_ND_says_44 : decode b_ND_says 44 = .ok (.ifCond .eq 12, 3) := by decide +kernel
theorem d_ND_says_47 : decode b_ND_says 47 = .ok (.iload_n 1, 1) := by decide +kernel
theorem d_ND_says_48 : decode b_ND_says 48 = .ok (.aload_n 0, 1) := by decide +kernel
theorem d_ND_says_49 : decode b_ND_says 49 = .ok (.getfield 63, 3) := by decide +kernel
theorem d_ND_says_52 : decode b_ND_says 52 = .ok (.iadd, 1) := by decide +kernel
theorem d_ND_says_53 : decode b_ND_says 53 = .ok (.goto 4, 3) := by decide +kernel
theorem d_ND_says_56 : decode b_ND_says 56 = .ok (.iload_n 1, 1) := by decide +kernel
theorem d_ND_says_57 : decode b_ND_says 57 = .ok (.ireturn, 1) := by decide +kernel
theorem d_ND_says_58 : decode b_ND_says 58 = .ok (.iload_n 1, 1) := by decide +kernel
theorem d_ND_says_59 : decode b_ND_says 59 = .ok (.aload_n 0, 1) := by decide +kernel
theorem d_ND_says_60 : decode b_ND_says 60 = .ok (.getfield 63, 3) := by decide +kernel
theorem d_ND_says_63 : decode b_ND_says 63 = .ok (.iload_n 2, 1) := by decide +kernel
theorem d_ND_says_64 : decode b_ND_says 64 = .ok (.iconst 1, 1) := by decide +kernel
theorem d_ND_says_65 : decode b_ND_says 65 = .ok (.iadd, 1) := by decide +kernel
theorem d_ND_says_66 : decode b_ND_says 66 = .ok (.imul, 1) := by decide +kernel
theorem d_ND_says_67 : decode b_ND_says 67 = .ok (.iadd, 1) := by decide +kernel
theorem d_ND_says_68 : decode b_ND_says 68 = .ok (.ireturn, 1) := by decide +kernel
theorem d_ND_says_69 : decode b_ND_says 69 = .ok (.iload_n 3, 1) := by decide +kernel
theorem d_ND_says_70 : decode b_ND_says 70 = .ok (.iconst 2, 1) := by decide +kernel
theorem d_ND_says_71 : decode b_ND_says 71 = .ok (.irem, 1) := by decide +kernel
theorem d_ND_says_72 : decode b_ND_says 72 = .ok (.ifCond .eq 10, 3) := by decide +kernel
theorem d_ND_says_75 : decode b_ND_says 75 = .ok (.aload_n 0, 1) := by decide +kernel
theorem d_ND_says_76 : decode b_ND_says 76 = .ok (.getfield 63, 3) := by decide +kernel
theorem d_ND_says_79 : decode b_ND_says 79 = .ok (.goto 4, 3) := by decide +kernel
theorem d_ND_says_82 : decode b_ND_says 82 = .ok (.iload_n 1, 1) := by decide +kernel
theorem d_ND_says_83 : decode b_ND_says 83 = .ok (.ireturn, 1) := by decide +kernel
theorem d_ND_says_84 : decode b_ND_says 84 = .ok (.iload_n 1, 1) := by decide +kernel
theorem d_ND_says_85 : decode b_ND_says 85 = .ok (.ireturn, 1) := by decide +kernel
theorem d_RL_follow_0 : decode b_RL_follow 0 = .ok (.iload_n 1, 1) := by decide +kernel
theorem d_RL_follow_1 : decode b_RL_follow 1 = .ok (.aload_n 0, 1) := by decide +kernel
theorem d_RL_follow_2 : decode b_RL_follow 2 = .ok (.getfield 7, 3) := by decide +kernel
theorem d_RL_follow_5 : decode b_RL_follow 5 = .ok (.arraylength, 1) := by decide +kernel
theorem d_RL_follow_6 : decode b_RL_follow 6 = .ok (.imul, 1) := by decide +kernel
theorem d_RL_follow_7 : decode b_RL_follow 7 = .ok (.iconst 1, 1) := by decide +kernel
theorem d_RL_follow_8 : decode b_RL_follow 8 = .ok (.iadd, 1) := by decide +kernel
theorem d_RL_follow_9 : decode b_RL_follow 9 = .ok (.iload_n 2, 1) := by decide +kernel
theorem d_RL_follow_10 : decode b_RL_follow 10 = .ok (.iadd, 1) := by decide +kernel
theorem d_RL_follow_11 : decode b_RL_follow 11 = .ok (.ireturn, 1) := by decide +kernel
theorem d_RL_agreedBy_0 : decode b_RL_agreedBy 0 = .ok (.iload_n 1, 1) := by decide +kernel
theorem d_RL_agreedBy_1 : decode b_RL_agreedBy 1 = .ok (.aload_n 0, 1) := by decide +kernel
theorem d_RL_agreedBy_2 : decode b_RL_agreedBy 2 = .ok (.getfield 44, 3) := by decide +kernel
theorem d_RL_agreedBy_5 : decode b_RL_agreedBy 5 = .ok (.if_icmp .ne 8, 3) := by decide +kernel
theorem d_RL_agreedBy_8 : decode b_RL_agreedBy 8 = .ok (.aload_n 0, 1) := by decide +kernel
theorem d_RL_agreedBy_9 : decode b_RL_agreedBy 9 = .ok (.getfield 47, 3) := by decide +kernel
theorem d_RL_agreedBy_12 : decode b_RL_agreedBy 12 = .ok (.ireturn, 1) := by decide +kernel
theorem d_RL_agreedBy_13 : decode b_RL_agreedBy 13 = .ok (.aload_n 0, 1) := by decide +kernel
theorem d_RL_agreedBy_14 : decode b_RL_agreedBy 14 = .ok (.getfield 7, 3) := by decide +kernel
theorem d_RL_agreedBy_17 : decode b_RL_agreedBy 17 = .ok (.iload_n 1, 1) := by decide +kernel
theorem d_RL_agreedBy_18 : decode b_RL_agreedBy 18 = .ok (.aaload, 1) := by decide +kernel
theorem d_RL_agreedBy_19 : decode b_RL_agreedBy 19 = .ok (.astore_n 2, 1) := by decide +kernel
theorem d_RL_agreedBy_20 : decode b_RL_agreedBy 20 = .ok (.aload_n 2, 1) := by decide +kernel
theorem d_RL_agreedBy_21 : decode b_RL_agreedBy 21 = .ok (.getfield 54, 3) := by decide +kernel
theorem d_RL_agreedBy_24 : decode b_RL_agreedBy 24 = .ok (.aload_n 0, 1) := by decide +kernel
theorem d_RL_agreedBy_25 : decode b_RL_agreedBy 25 = .ok (.getfield 44, 3) := by decide +kernel
theorem d_RL_agreedBy_28 : decode b_RL_agreedBy 28 = .ok (.invokestatic 57, 3) := by decide +kernel
theorem d_RL_agreedBy_31 : decode b_RL_agreedBy 31 = .ok (.ifCond .ne 5, 3) := by decide +kernel
theorem d_RL_agreedBy_34 : decode b_RL_agreedBy 34 = .ok (.iconst 0, 1) := by decide +kernel
theorem d_RL_agreedBy_35 : decode b_RL_agreedBy 35 = .ok (.ireturn, 1) := by decide +kernel
theorem d_RL_agreedBy_36 : decode b_RL_agreedBy 36 = .ok (.aload_n 0, 1) := by decide +kernel
theorem d_RL_agreedBy_37 : decode b_RL_agreedBy 37 = .ok (.aload_n 2, 1) := by decide +kernel
theorem d_RL_agreedBy_38 : decode b_RL_agreedBy 38 = .ok (.iconst 0, 1) := by decide +kernel
theorem d_RL_agreedBy_39 : decode b_RL_agreedBy 39 = .ok (.iconst 1, 1) := by decide +kernel
theorem d_RL_agreedBy_40 : decode b_RL_agreedBy 40 = .ok (.aload_n 0, 1) := by decide +kernel
theorem d_RL_agreedBy_41 : decode b_RL_agreedBy 41 = .ok (.getfield 44, 3) := by decide +kernel
theorem d_RL_agreedBy_44 : decode b_RL_agreedBy 44 = .ok (.ishl, 1) := by decide +kernel
theorem d_RL_agreedBy_45 : decode b_RL_agreedBy 45 = .ok (.aload_n 2, 1) := by decide +kernel
theorem d_RL_agreedBy_46 : decode b_RL_agreedBy 46 = .ok (.aload_n 0, 1) := by decide +kernel
theorem d_RL_agreedBy_47 : decode b_RL_agreedBy 47 = .ok (.getfield 13, 3) := by decide +kernel
theorem d_RL_agreedBy_50 : decode b_RL_agreedBy 50 = .ok (.invokevirtual 32, 3) := by decide +kernel
theorem d_RL_agreedBy_53 : decode b_RL_agreedBy 53 = .ok (.invokevirtual 63, 3) := by decide +kernel
theorem d_RL_agreedBy_56 : decode b_RL_agreedBy 56 = .ok (.ireturn, 1) := by decide +kernel
theorem d_RL_make_0 : decode b_RL_make 0 = .ok (.aload_n 0, 1) := by decide +kernel
theorem d_RL_make_1 : decode b_RL_make 1 = .ok (.getfield 17, 3) := by decide +kernel
theorem d_RL_make_4 : decode b_RL_make 4 = .ok (.aload_n 0, 1) := by decide +kernel
theorem d_RL_make_5 : decode b_RL_make 5 = .ok (.iload_n 2, 1) := by decide +kernel
theorem d_RL_make_6 : decode b_RL_make 6 = .ok (.aload_n 1, 1) := by decide +kernel
theorem d_RL_make_7 : decode b_RL_make 7 = .ok (.getfield 83, 3) := by decide +kernel
theorem d_RL_make_10 : decode b_RL_make 10 = .ok (.invokevirtual 74, 3) := by decide +kernel
theorem d_RL_make_13 : decode b_RL_make 13 = .ok (.iaload, 1) := by decide +kernel
theorem d_RL_make_14 : decode b_RL_make 14 = .ok (.istore 5, 2) := by decide +kernel
theorem d_RL_make_16 : decode b_RL_make 16 = .ok (.iload 4, 2) := by decide +kernel
theorem d_RL_make_18 : decode b_RL_make 18 = .ok (.ifCond .gt 6, 3) := by decide +kernel
theorem d_RL_make_21 : decode b_RL_make 21 = .ok (.iload 5, 2) := by decide +kernel
theorem d_RL_make_23 : decode b_RL_make 23 = .ok (.ireturn, 1) := by decide +kernel
theorem d_RL_make_24 : decode b_RL_make 24 = .ok (.aload_n 0, 1) := by decide +kernel
theorem d_RL_make_25 : decode b_RL_make 25 = .ok (.getfield 23, 3) := by decide +kernel
theorem d_RL_make_28 : decode b_RL_make 28 = .ok (.iload 4, 2) := by decide +kernel
theorem d_RL_make_30 : decode b_RL_make 30 = .ok (.aaload, 1) := by decide +kernel
theorem d_RL_make_31 : decode b_RL_make 31 = .ok (.astore 6, 2) := by decide +kernel
theorem d_RL_make_33 : decode b_RL_make 33 = .ok (.aload 6, 2) := by decide +kernel
theorem d_RL_make_35 : decode b_RL_make 35 = .ok (.iconst 0, 1) := by decide +kernel
theorem d_RL_make_36 : decode b_RL_make 36 = .ok (.iload 5, 2) := by decide +kernel
theorem d_RL_make_38 : decode b_RL_make 38 = .ok (.iastore, 1) := by decide +kernel
theorem d_RL_make_39 : decode b_RL_make 39 = .ok (.iconst 1, 1) := by decide +kernel
theorem d_RL_make_40 : decode b_RL_make 40 = .ok (.istore 7, 2) := by decide +kernel
theorem d_RL_make_42 : decode b_RL_make 42 = .ok (.aload_n 1, 1) := by decide +kernel
theorem d_RL_make_43 : decode b_RL_make 43 = .ok (.getfield 54, 3) := by decide +kernel
theorem d_RL_make_46 : decode b_RL_make 46 = .ok (.iload_n 3, 1) := by decide +kernel
theorem d_RL_make_47 : decode b_RL_make 47 = .ok (.iconst (-1), 1) := by decide +kernel
theorem d_RL_make_48 : decode b_RL_make 48 = .ok (.ixor, 1) := by decide +kernel
theorem d_RL_make_49 : decode b_RL_make 49 = .ok (.iand, 1) := by decide +kernel
theorem d_RL_make_50 : decode b_RL_make 50 = .ok (.iconst 1, 1) := by decide +kernel
theorem d_RL_make_51 : decode b_RL_make 51 = .ok (.aload_n 1, 1) := by decide +kernel
theorem d_RL_make_52 : decode b_RL_make 52 = .ok (.getfield 83, 3) := by decide +kernel
theorem d_RL_make_55 : decode b_RL_make 55 = .ok (.ishl, 1) := by decide +kernel
theorem d_RL_make_56 : decode b_RL_make 56 = .ok (.iconst (-1), 1) := by decide +kernel
theorem d_RL_make_57 : decode b_RL_make 57 = .ok (.ixor, 1) := by decide +kernel
theorem d_RL_make_58 : decode b_RL_make 58 = .ok (.iand, 1) := by decide +kernel
theorem d_RL_make_59 : decode b_RL_make 59 = .ok (.istore 8, 2) := by decide +kernel
theorem d_RL_make_61 : decode b_RL_make 61 = .ok (.iconst 0, 1) := by decide +kernel
theorem d_RL_make_62 : decode b_RL_make 62 = .ok (.istore 9, 2) := by decide +kernel
theorem d_RL_make_64 : decode b_RL_make 64 = .ok (.iload 9, 2) := by decide +kernel
theorem d_RL_make_66 : decode b_RL_make 66 = .ok (.aload_n 0, 1) := by decide +kernel
theorem d_RL_make_67 : decode b_RL_make 67 = .ok (.getfield 7, 3) := by decide +kernel
theorem d_RL_make_70 : decode b_RL_make 70 = .ok (.arraylength, 1) := by decide +kernel
theorem d_RL_make_71 : decode b_RL_make 71 = .ok (.if_icmp .ge 49, 3) := by decide +kernel
theorem d_RL_make_74 : decode b_RL_make 74 = .ok (.iload 8, 2) := by decide +kernel
theorem d_RL_make_76 : decode b_RL_make 76 = .ok (.iload 9, 2) := by decide +kernel
theorem d_RL_make_78 : decode b_RL_make 78 = .ok (.invokestatic 57, 3) := by decide +kernel
theorem d_RL_make_81 : decode b_RL_make 81 = .ok (.ifCond .eq 33, 3) := by decide +kernel
theorem d_RL_make_84 : decode b_RL_make 84 = .ok (.aload 6, 2) := by decide +kernel
theorem d_RL_make_86 : decode b_RL_make 86 = .ok (.iload 7, 2) := by decide +kernel
theorem d_RL_make_88 : decode b_RL_make 88 = .ok (.aload_n 0, 1) := by decide +kernel
theorem d_RL_make_89 : decode b_RL_make 89 = .ok (.aload_n 1, 1) := by decide +kernel
theorem d_RL_make_90 : decode b_RL_make 90 = .ok (.aload_n 0, 1) := by decide +kernel
theorem d_RL_make_91 : decode b_RL_make 91 = .ok (.iload_n 2, 1) := by decide +kernel
theorem d_RL_make_92 : decode b_RL_make 92 = .ok (.iload 9, 2) := by decide +kernel
theorem d_RL_make_94 : decode b_RL_make 94 = .ok (.invokevirtual 80, 3) := by decide +kernel
theorem d_RL_make_97 : decode b_RL_make 97 = .ok (.iload_n 3, 1) := by decide +kernel
theorem d_RL_make_98 : decode b_RL_make 98 = .ok (.iconst 1, 1) := by decide +kernel
theorem d_RL_make_99 : decode b_RL_make 99 = .ok (.iload 9, 2) := by decide +kernel
theorem d_RL_make_101 : decode b_RL_make 101 = .ok (.ishl, 1) := by decide +kernel
theorem d_RL_make_102 : decode b_RL_make 102 = .ok (.ior, 1) := by decide +kernel
theorem d_RL_make_103 : decode b_RL_make 103 = .ok (.iload 4, 2) := by decide +kernel
theorem d_RL_make_105 : decode b_RL_make 105 = .ok (.iconst 1, 1) := by decide +kernel
theorem d_RL_make_106 : decode b_RL_make 106 = .ok (.isub, 1) := by decide +kernel
theorem d_RL_make_107 : decode b_RL_make 107 = .ok (.invokevirtual 63, 3) := by decide +kernel
theorem d_RL_make_110 : decode b_RL_make 110 = .ok (.iastore, 1) := by decide +kernel
theorem d_RL_make_111 : decode b_RL_make 111 = .ok (.iinc 7 1, 3) := by decide +kernel
theorem d_RL_make_114 : decode b_RL_make 114 = .ok (.iinc 9 1, 3) := by decide +kernel
theorem d_RL_make_117 : decode b_RL_make 117 = .ok (.goto (-53), 3) := by decide +kernel
theorem d_RL_make_120 : decode b_RL_make 120 = .ok (.aload 6, 2) := by decide +kernel
theorem d_RL_make_122 : decode b_RL_make 122 = .ok (.iload 7, 2) := by decide +kernel
theorem d_RL_make_124 : decode b_RL_make 124 = .ok (.iload 7, 2) := by decide +kernel
theorem d_RL_make_126 : decode b_RL_make 126 = .ok (.invokestatic 86, 3) := by decide +kernel
theorem d_RL_make_129 : decode b_RL_make 129 = .ok (.istore 9, 2) := by decide +kernel
theorem d_RL_make_131 : decode b_RL_make 131 = .ok (.iload 9, 2) := by decide +kernel
theorem d_RL_make_133 : decode b_RL_make 133 = .ok (.ifCond .ge 7, 3) := by decide +kernel
theorem d_RL_make_136 : decode b_RL_make 136 = .ok (.iconst 0, 1) := by decide +kernel
theorem d_RL_make_137 : decode b_RL_make 137 = .ok (.goto 8, 3) := by decide +kernel
theorem d_RL_make_140 : decode b_RL_make 140 = .ok (.aload 6, 2) := by decide +kernel
theorem d_RL_make_142 : decode b_RL_make 142 = .ok (.iload 9, 2) := by decide +kernel
theorem d_RL_make_144 : decode b_RL_make 144 = .ok (.iaload, 1) := by decide +kernel
theorem d_RL_make_145 : decode b_RL_make 145 = .ok (.ireturn, 1) := by decide +kernel
theorem d_TK_isDueIn_0 : decode b_TK_isDueIn 0 = .ok (.aload_n 0, 1) := by decide +kernel
theorem d_TK_isDueIn_1 : decode b_TK_isDueIn 1 = .ok (.getfield 20, 3) := by decide +kernel
theorem d_TK_isDueIn_4 : decode b_TK_isDueIn 4 = .ok (.ifCond .le 20, 3) := by decide +kernel
theorem d_TK_isDueIn_7 : decode b_TK_isDueIn 7 = .ok (.iload_n 1, 1) := by decide +kernel
theorem d_TK_isDueIn_8 : decode b_TK_isDueIn 8 = .ok (.aload_n 0, 1) := by decide +kernel
theorem d_TK_isDueIn_9 : decode b_TK_isDueIn 9 = .ok (.getfield 20, 3) := by decide +kernel
theorem d_TK_isDueIn_12 : decode b_TK_isDueIn 12 = .ok (.irem, 1) := by decide +kernel
theorem d_TK_isDueIn_13 : decode b_TK_isDueIn 13 = .ok (.aload_n 0, 1) := by decide +kernel
theorem d_TK_isDueIn_14 : decode b_TK_isDueIn 14 = .ok (.getfield 23, 3) := by decide +kernel
theorem d_TK_isDueIn_17 : decode b_TK_isDueIn 17 = .ok (.if_icmp .ne 7, 3) := by decide +kernel
theorem d_TK_isDueIn_20 : decode b_TK_isDueIn 20 = .ok (.iconst 1, 1) := by decide +kernel
theorem d_TK_isDueIn_21 : decode b_TK_isDueIn 21 = .ok (.goto 4, 3) := by decide +kernel
theorem d_TK_isDueIn_24 : decode b_TK_isDueIn 24 = .ok (.iconst 0, 1) := by decide +kernel
theorem d_TK_isDueIn_25 : decode b_TK_isDueIn 25 = .ok (.ireturn, 1) := by decide +kernel
theorem d_SM_resultOf_0 : decode b_SM_resultOf 0 = .ok (.aload_n 0, 1) := by decide +kernel
theorem d_SM_resultOf_1 : decode b_SM_resultOf 1 = .ok (.iconst 0, 1) := by decide +kernel
theorem d_SM_resultOf_2 : decode b_SM_resultOf 2 = .ok (.putfield 15, 3) := by decide +kernel
theorem d_SM_resultOf_5 : decode b_SM_resultOf 5 = .ok (.iconst 0, 1) := by decide +kernel
theorem d_SM_resultOf_6 : decode b_SM_resultOf 6 = .ok (.istore 4, 2) := by decide +kernel
theorem d_SM_resultOf_8 : decode b_SM_resultOf 8 = .ok (.iconst 0, 1) := by decide +kernel
theorem d_SM_resultOf_9 : decode b_SM_resultOf 9 = .ok (.istore 5, 2) := by decide +kernel
theorem d_SM_resultOf_11 : decode b_SM_resultOf 11 = .ok (.iload 5, 2) := by decide +kernel
theorem d_SM_resultOf_13 : decode b_SM_resultOf 13 = .ok (.aload_n 1, 1) := by decide +kernel
theorem d_SM_resultOf_14 : decode b_SM_resultOf 14 = .ok (.getfield 19, 3) := by decide +kernel
theorem d_SM_resultOf_17 : decode b_SM_resultOf 17 = .ok (.if_icmp .ge 134, 3) := by decide +kernel
theorem d_SM_resultOf_20 : decode b_SM_resultOf 20 = .ok (.iload 4, 2) := by decide +kernel
theorem d_SM_resultOf_22 : decode b_SM_resultOf 22 = .ok (.ifCond .le 9, 3) := by decide +kernel
theorem d_SM_resultOf_25 : decode b_SM_resultOf 25 = .ok (.iinc 4 (-1), 3) := by decide +kernel
theorem d_SM_resultOf_28 : decode b_SM_resultOf 28 = .ok (.goto 117, 3) := by decide +kernel
theorem d_SM_resultOf_31 : decode b_SM_resultOf 31 = .ok (.aload_n 1, 1) := by decide +kernel
theorem d_SM_resultOf_32 : decode b_SM_resultOf 32 = .ok (.getfield 24, 3) := by decide +kernel
theorem d_SM_resultOf_35 : decode b_SM_resultOf 35 = .ok (.iload 5, 2) := by decide +kernel
theorem d_SM_resultOf_37 : decode b_SM_resultOf 37 = .ok (.iaload, 1) := by decide +kernel
theorem d_SM_resultOf_38 : decode b_SM_resultOf 38 = .ok (.istore 6, 2) := by decide +kernel
theorem d_SM_resultOf_40 : decode b_SM_resultOf 40 = .ok (.aload_n 1, 1) := by decide +kernel
theorem d_SM_resultOf_41 : decode b_SM_resultOf 41 = .ok (.getfield 27, 3) := by decide +kernel
theorem d_SM_resultOf_44 : decode b_SM_resultOf 44 = .ok (.iload 5, 2) := by decide +kernel
theorem d_SM_resultOf_46 : decode b_SM_resultOf 46 = .ok (.iaload, 1) := by decide +kernel
theorem d_SM_resultOf_47 : decode b_SM_resultOf 47 = .ok (.istore 7, 2) := by decide +kernel
theorem d_SM_resultOf_49 : decode b_SM_resultOf 49 = .ok (.aload_n 0, 1) := by decide +kernel
theorem d_SM_resultOf_50 : decode b_SM_resultOf 50 = .ok (.iload 6, 2) := by decide +kernel
theorem d_SM_resultOf_52 : decode b_SM_resultOf 52 = .ok (.invokevirtual 30, 3) := by decide +kernel
theorem d_SM_resultOf_55 : decode b_SM_resultOf 55 = .ok (.istore 8, 2) := by decide +kernel
theorem d_SM_resultOf_57 : decode b_SM_resultOf 57 = .ok (.iload 8, 2) := by decide +kernel
theorem d_SM_resultOf_59 : decode b_SM_resultOf 59 = .ok (.ifCond .eq 6, 3) := by decide +kernel
theorem d_SM_resultOf_62 : decode b_SM_resultOf 62 = .ok (.iload 8, 2) := by decide +kernel
theorem d_SM_resultOf_64 : decode b_SM_resultOf 64 = .ok (.ireturn, 1) := by decide +kernel
theorem d_SM_resultOf_65 : decode b_SM_resultOf 65 = .ok (.iload 6, 2) := by decide +kernel
theorem d_SM_resultOf_67 : decode b_SM_resultOf 67 = .ok (.bipush 8, 2) := by decide +kernel
theorem d_SM_resultOf_69 : decode b_SM_resultOf 69 = .ok (.if_icmp .ne 21, 3) := by decide +kernel
theorem d_SM_resultOf_72 : decode b_SM_resultOf 72 = .ok (.aload_n 0, 1) := by decide +kernel
theorem d_SM_resultOf_73 : decode b_SM_resultOf 73 = .ok (.invokevirtual 34, 3) := by decide +kernel
theorem d_SM_resultOf_76 : decode b_SM_resultOf 76 = .ok (.ifCond .ne 8, 3) := by decide +kernel
theorem d_SM_resultOf_79 : decode b_SM_resultOf 79 = .ok (.iload 7, 2) := by decide +kernel
theorem d_SM_resultOf_81 : decode b_SM_resultOf 81 = .ok (.goto 4, 3) := by decide +kernel
theorem d_SM_resultOf_84 : decode b_SM_resultOf 84 = .ok (.iconst 0, 1) := by decide +kernel
theorem d_SM_resultOf_85 : decode b_SM_resultOf 85 = .ok (.istore 4, 2) := by decide +kernel
theorem d_SM_resultOf_87 : decode b_SM_resultOf 87 = .ok (.goto 58, 3) := by decide +kernel
theorem d_SM_resultOf_90 : decode b_SM_resultOf 90 = .ok (.iload 6, 2) := by decide +kernel
theorem d_SM_resultOf_92 : decode b_SM_resultOf 92 = .ok (.iconst 3, 1) := by decide +kernel
theorem d_SM_resultOf_93 : decode b_SM_resultOf 93 = .ok (.if_icmp .lt 38, 3) := by decide +kernel
theorem d_SM_resultOf_96 : decode b_SM_resultOf 96 = .ok (.iload 6, 2) := by decide +kernel
theorem d_SM_resultOf_98 : decode b_SM_resultOf 98 = .ok (.bipush 7, 2) := by decide +kernel
theorem d_SM_resultOf_100 : decode b_SM_resultOf 100 = .ok (.if_icmp .gt 31, 3) := by decide +kernel
theorem d_SM_resultOf_103 : decode b_SM_resultOf 103 = .ok (.aload_n 0, 1) := by decide +kernel
theorem d_SM_resultOf_104 : decode b_SM_resultOf 104 = .ok (.invokevirtual 34, 3) := by decide +kernel
theorem d_SM_resultOf_107 : decode b_SM_resultOf 107 = .ok (.istore 9, 2) := by decide +kernel
theorem d_SM_resultOf_109 : decode b_SM_resultOf 109 = .ok (.aload_n 0, 1) := by decide +kernel
theorem d_SM_resultOf_110 : decode b_SM_resultOf 110 = .ok (.invokevirtual 34, 3) := by decide +kernel
theorem d_SM_resultOf_113 : decode b_SM_resultOf 113 = .ok (.istore 10, 2) := by decide +kernel
theorem d_SM_resultOf_115 : decode b_SM_resultOf 115 = .ok (.aload_n 0, 1) := by decide +kernel
theorem d_SM_resultOf_116 : decode b_SM_resultOf 116 = .ok (.iload 6, 2) := by decide +kernel
theorem d_SM_resultOf_118 : decode b_SM_resultOf 118 = .ok (.iload 10, 2) := by decide +kernel
theorem d_SM_resultOf_120 : decode b_SM_resultOf 120 = .ok (.iload 9, 2) := by decide +kernel
theorem d_SM_resultOf_122 : decode b_SM_resultOf 122 = .ok (.invokestatic 38, 3) := by decide +kernel
theorem d_SM_resultOf_125 : decode b_SM_resultOf 125 = .ok (.invokevirtual 42, 3) := by decide +kernel
theorem d_SM_resultOf_128 : decode b_SM_resultOf 128 = .ok (.goto 17, 3) := by decide +kernel
theorem d_SM_resultOf_131 : decode b_SM_resultOf 131 = .ok (.aload_n 0, 1) := by decide +kernel
theorem d_SM_resultOf_132 : decode b_SM_resultOf 132 = .ok (.aload_n 0, 1) := by decide +kernel
theorem d_SM_resultOf_133 : decode b_SM_resultOf 133 = .ok (.iload 6, 2) := by decide +kernel
theorem d_SM_resultOf_135 : decode b_SM_resultOf 135 = .ok (.iload 7, 2) := by decide +kernel
theorem d_SM_resultOf_137 : decode b_SM_resultOf 137 = .ok (.aload_n 2, 1) := by decide +kernel
theorem d_SM_resultOf_138 : decode b_SM_resultOf 138 = .ok (.aload_n 3, 1) := by decide +kernel
theorem d_SM_resultOf_139 : decode b_SM_resultOf 139 = .ok (.invokevirtual 46, 3) := by decide +kernel
theorem d_SM_resultOf_142 : decode b_SM_resultOf 142 = .ok (.invokevirtual 42, 3) := by decide +kernel
theorem d_SM_resultOf_145 : decode b_SM_resultOf 145 = .ok (.iinc 5 1, 3) := by decide +kernel
theorem d_SM_resultOf_148 : decode b_SM_resultOf 148 = .ok (.goto (-137), 3) := by decide +kernel
theorem d_SM_resultOf_151 : decode b_SM_resultOf 151 = .ok (.aload_n 0, 1) := by decide +kernel
theorem d_SM_resultOf_152 : decode b_SM_resultOf 152 = .ok (.getfield 15, 3) := by decide +kernel
theorem d_SM_resultOf_155 : decode b_SM_resultOf 155 = .ok (.ifCond .ne 8, 3) := by decide +kernel
theorem d_SM_resultOf_158 : decode b_SM_resultOf 158 = .ok (.ldc 50, 2) := by decide +kernel
theorem d_SM_resultOf_160 : decode b_SM_resultOf 160 = .ok (.goto 14, 3) := by decide +kernel
theorem d_SM_resultOf_163 : decode b_SM_resultOf 163 = .ok (.aload_n 0, 1) := by decide +kernel
theorem d_SM_resultOf_164 : decode b_SM_resultOf 164 = .ok (.getfield 11, 3) := by decide +kernel
theorem d_SM_resultOf_167 : decode b_SM_resultOf 167 = .ok (.aload_n 0, 1) := by decide +kernel
theorem d_SM_resultOf_168 : decode b_SM_resultOf 168 = .ok (.getfield 15, 3) := by decide +kernel
theorem d_SM_resultOf_171 : decode b_SM_resultOf 171 = .ok (.iconst 1, 1) := by decide +kernel
theorem d_SM_resultOf_172 : decode b_SM_resultOf 172 = .ok (.isub, 1) := by decide +kernel
theorem d_SM_resultOf_173 : decode b_SM_resultOf 173 = .ok (.iaload, 1) := by decide +kernel
theorem d_SM_resultOf_174 : decode b_SM_resultOf 174 = .ok (.ireturn, 1) := by decide +kernel
theorem d_SM_refusalOf_0 : decode b_SM_refusalOf 0 = .ok (.aload_n 0, 1) := by decide +kernel
theorem d_SM_refusalOf_1 : decode b_SM_refusalOf 1 = .ok (.getfield 15, 3) := by decide +kernel
theorem d_SM_refusalOf_4 : decode b_SM_refusalOf 4 = .ok (.iload_n 1, 1) := by decide +kernel
theorem d_SM_refusalOf_5 : decode b_SM_refusalOf 5 = .ok (.invokestatic 51, 3) := by decide +kernel
theorem d_SM_refusalOf_8 : decode b_SM_refusalOf 8 = .ok (.if_icmp .ge 6, 3) := by decide +kernel
theorem d_SM_refusalOf_11 : decode b_SM_refusalOf 11 = .ok (.ldc 50, 2) := by decide +kernel
theorem d_SM_refusalOf_13 : decode b_SM_refusalOf 13 = .ok (.ireturn, 1) := by decide +kernel
theorem d_SM_refusalOf_14 : decode b_SM_refusalOf 14 = .ok (.iload_n 1, 1) := by decide +kernel
theorem d_SM_refusalOf_15 : decode b_SM_refusalOf 15 = .ok (.bipush 6, 2) := by decide +kernel
theorem d_SM_refusalOf_17 : decode b_SM_refusalOf 17 = .ok (.if_icmp .ne 20, 3) := by decide +kernel
theorem d_SM_refusalOf_20 : decode b_SM_refusalOf 20 = .ok (.aload_n 0, 1) := by decide +kernel
theorem d_SM_refusalOf_21 : decode b_SM_refusalOf 21 = .ok (.getfield 11, 3) := by decide +kernel
theorem d_SM_refusalOf_24 : decode b_SM_refusalOf 24 = .ok (.aload_n 0, 1) := by decide +kernel
theorem d_SM_refusalOf_25 : decode b_SM_refusalOf 25 = .ok (.getfield 15, 3) := by decide +kernel
theorem d_SM_refusalOf_28 : decode b_SM_refusalOf 28 = .ok (.iconst 1, 1) := by decide +kernel
theorem d_SM_refusalOf_29 : decode b_SM_refusalOf 29 = .ok (.isub, 1) := by decide +kernel
theorem d_SM_refusalOf_30 : decode b_SM_refusalOf 30 = .ok (.iaload, 1) := by decide +kernel
theorem d_SM_refusalOf_31 : decode b_SM_refusalOf 31 = .ok (.ifCond .ne 6, 3) := by decide +kernel
theorem d_SM_refusalOf_34 : decode b_SM_refusalOf 34 = .ok (.ldc 54, 2) := by decide +kernel
theorem d_SM_refusalOf_36 : decode b_SM_refusalOf 36 = .ok (.ireturn, 1) := by decide +kernel
theorem d_SM_refusalOf_37 : decode b_SM_refusalOf 37 = .ok (.iload_n 1, 1) := by decide +kernel
theorem d_SM_refusalOf_38 : decode b_SM_refusalOf 38 = .ok (.iconst 2, 1) := by decide +kernel
theorem d_SM_refusalOf_39 : decode b_SM_refusalOf 39 = .ok (.if_icmp .le 9, 3) := by decide +kernel
theorem d_SM_refusalOf_42 : decode b_SM_refusalOf 42 = .ok (.iload_n 1, 1) := by decide +kernel
theorem d_SM_refusalOf_43 : decode b_SM_refusalOf 43 = .ok (.bipush 9, 2) := by decide +kernel
theorem d_SM_refusalOf_45 : decode b_SM_refusalOf 45 = .ok (.if_icmp .ne 7, 3) := by decide +kernel
theorem d_SM_refusalOf_48 : decode b_SM_refusalOf 48 = .ok (.iconst 1, 1) := by decide +kernel
theorem d_SM_refusalOf_49 : decode b_SM_refusalOf 49 = .ok (.goto 4, 3) := by decide +kernel
theorem d_SM_refusalOf_52 : decode b_SM_refusalOf 52 = .ok (.iconst 0, 1) := by decide +kernel
theorem d_SM_refusalOf_53 : decode b_SM_refusalOf 53 = .ok (.istore_n 2, 1) := by decide +kernel
theorem d_SM_refusalOf_54 : decode b_SM_refusalOf 54 = .ok (.iload_n 2, 1) := by decide +kernel
theorem d_SM_refusalOf_55 : decode b_SM_refusalOf 55 = .ok (.ifCond .eq 17, 3) := by decide +kernel
theorem d_SM_refusalOf_58 : decode b_SM_refusalOf 58 = .ok (.aload_n 0, 1) := by decide +kernel
theorem d_SM_refusalOf_59 : decode b_SM_refusalOf 59 = .ok (.getfield 15, 3) := by decide +kernel
theorem d_SM_refusalOf_62 : decode b_SM_refusalOf 62 = .ok (.bipush 6, 2) := by decide +kernel
theorem d_SM_refusalOf_64 : decode b_SM_refusalOf 64 = .ok (.if_icmp .lt 8, 3) := by decide +kernel
theorem d_SM_refusalOf_67 : decode b_SM_refusalOf 67 = .ok (.ldc 55, 2) := by decide +kernel
theorem d_SM_refusalOf_69 : decode b_SM_refusalOf 69 = .ok (.goto 4, 3) := by decide +kernel
theorem d_SM_refusalOf_72 : decode b_SM_refusalOf 72 = .ok (.iconst 0, 1) := by decide +kernel
theorem d_SM_refusalOf_73 : decode b_SM_refusalOf 73 = .ok (.ireturn, 1) := by decide +kernel
theorem d_SM_needs_0 : decode b_SM_needs 0 = .ok (.iload_n 0, 1) := by decide +kernel
theorem d_SM_needs_1 : decode b_SM_needs 1 = .ok (.iconst 3, 1) := by decide +kernel
theorem d_SM_needs_2 : decode b_SM_needs 2 = .ok (.if_icmp .lt 11, 3) := by decide +kernel
theorem d_SM_needs_5 : decode b_SM_needs 5 = .ok (.iload_n 0, 1) := by decide +kernel
theorem d_SM_needs_6 : decode b_SM_needs 6 = .ok (.bipush 7, 2) := by decide +kernel
theorem d_SM_needs_8 : decode b_SM_needs 8 = .ok (.if_icmp .gt 5, 3) := by decide +kernel
theorem d_SM_needs_11 : decode b_SM_needs 11 = .ok (.iconst 2, 1) := by decide +kernel
theorem d_SM_needs_12 : decode b_SM_needs 12 = .ok (.ireturn, 1) := by decide +kernel
theorem d_SM_needs_13 : decode b_SM_needs 13 = .ok (.iload_n 0, 1) := by decide +kernel
theorem d_SM_needs_14 : decode b_SM_needs 14 = .ok (.bipush 8, 2) := by decide +kernel
theorem d_SM_needs_16 : decode b_SM_needs 16 = .ok (.if_icmp .eq 9, 3) := by decide +kernel
theorem d_SM_needs_19 : decode b_SM_needs 19 = .ok (.iload_n 0, 1) := by decide +kernel
theorem d_SM_needs_20 : decode b_SM_needs 20 = .ok (.bipush 9, 2) := by decide +kernel
theorem d_SM_needs_22 : decode b_SM_needs 22 = .ok (.if_icmp .ne 7, 3) := by decide +kernel
theorem d_SM_needs_25 : decode b_SM_needs 25 = .ok (.iconst 1, 1) := by decide +kernel
theorem d_SM_needs_26 : decode b_SM_needs 26 = .ok (.goto 4, 3) := by decide +kernel
theorem d_SM_needs_29 : decode b_SM_needs 29 = .ok (.iconst 0, 1) := by decide +kernel
theorem d_SM_needs_30 : decode b_SM_needs 30 = .ok (.ireturn, 1) := by decide +kernel
theorem d_SM_pop_0 : decode b_SM_pop 0 = .ok (.aload_n 0, 1) := by decide +kernel
theorem d_SM_pop_1 : decode b_SM_pop 1 = .ok (.dup, 1) := by decide +kernel
theorem d_SM_pop_2 : decode b_SM_pop 2 = .ok (.getfield 15, 3) := by decide +kernel
theorem d_SM_pop_5 : decode b_SM_pop 5 = .ok (.iconst 1, 1) := by decide +kernel
theorem d_SM_pop_6 : decode b_SM_pop 6 = .ok (.isub, 1) := by decide +kernel
theorem d_SM_pop_7 : decode b_SM_pop 7 = .ok (.putfield 15, 3) := by decide +kernel
theorem d_SM_pop_10 : decode b_SM_pop 10 = .ok (.aload_n 0, 1) := by decide +kernel
theorem d_SM_pop_11 : decode b_SM_pop 11 = .ok (.getfield 11, 3) := by decide +kernel
theorem d_SM_pop_14 : decode b_SM_pop 14 = .ok (.aload_n 0, 1) := by decide +kernel
theorem d_SM_pop_15 : decode b_SM_pop 15 = .ok (.getfield 15, 3) := by decide +kernel
theorem d_SM_pop_18 : decode b_SM_pop 18 = .ok (.iaload, 1) := by decide +kernel
theorem d_SM_pop_19 : decode b_SM_pop 19 = .ok (.ireturn, 1) := by decide +kernel
theorem d_SM_combine_0 : decode b_SM_combine 0 = .ok (.iload_n 0, 1) := by decide +kernel
theorem d_SM_combine_1 : decode b_SM_combine 1 = .ok (.tableswitch 58 3 6 #[31, 35, 39, 43], 31) := by decide +kernel
theorem d_SM_combine_32 : decode b_SM_combine 32 = .ok (.iload_n 1, 1) := by decide +kernel
theorem d_SM_combine_33 : decode b_SM_combine 33 = .ok (.iload_n 2, 1) := by decide +kernel
theorem d_SM_combine_34 : decode b_SM_combine 34 = .ok (.iadd, 1) := by decide +kernel
theorem d_SM_combine_35 : decode b_SM_combine 35 = .ok (.ireturn, 1) := by decide +kernel
theorem d_SM_combine_36 : decode b_SM_combine 36 = .ok (.iload_n 1, 1) := by decide +kernel
theorem d_SM_combine_37 : decode b_SM_combine 37 = .ok (.iload_n 2, 1) := by decide +kernel
theorem d_SM_combine_38 : decode b_SM_combine 38 = .ok (.isub, 1) := by decide +kernel
theorem d_SM_combine_39 : decode b_SM_combine 39 = .ok (.ireturn, 1) := by decide +kernel
theorem d_SM_combine_40 : decode b_SM_combine 40 = .ok (.iload_n 1, 1) := by decide +kernel
theorem d_SM_combine_41 : decode b_SM_combine 41 = .ok (.iload_n 2, 1) := by decide +kernel
theorem d_SM_combine_42 : decode b_SM_combine 42 = .ok (.imul, 1) := by decide +kernel
theorem d_SM_combine_43 : decode b_SM_combine 43 = .ok (.ireturn, 1) := by decide +kernel
theorem d_SM_combine_44 : decode b_SM_combine 44 = .ok (.iload_n 2, 1) := by decide +kernel
theorem d_SM_combine_45 : decode b_SM_combine 45 = .ok (.ifCond .ne 8, 3) := by decide +kernel
theorem d_SM_combine_48 : decode b_SM_combine 48 = .ok (.ldc 54, 2) := by decide +kernel
theorem d_SM_combine_50 : decode b_SM_combine 50 = .ok (.goto 8, 3) := by decide +kernel
theorem d_SM_combine_53 : decode b_SM_combine 53 = .ok (.iload_n 1, 1) := by decide +kernel
theorem d_SM_combine_54 : decode b_SM_combine 54 = .ok (.iload_n 2, 1) := by decide +kernel
theorem d_SM_combine_55 : decode b_SM_combine 55 = .ok (.invokestatic 56, 3) := by decide +kernel
theorem d_SM_combine_58 : decode b_SM_combine 58 = .ok (.ireturn, 1) := by decide +kernel
theorem d_SM_combine_59 : decode b_SM_combine 59 = .ok (.iload_n 1, 1) := by decide +kernel
theorem d_SM_combine_60 : decode b_SM_combine 60 = .ok (.iload_n 2, 1) := by decide +kernel
theorem d_SM_combine_61 : decode b_SM_combine 61 = .ok (.if_icmp .ge 7, 3) := by decide +kernel
theorem d_SM_combine_64 : decode b_SM_combine 64 = .ok (.iconst 1, 1) := by decide +kernel
theorem d_SM_combine_65 : decode b_SM_combine 65 = .ok (.goto 4, 3) := by decide +kernel
theorem d_SM_combine_68 : decode b_SM_combine 68 = .ok (.iconst 0, 1) := by decide +kernel
theorem d_SM_combine_69 : decode b_SM_combine 69 = .ok (.ireturn, 1) := by decide +kernel
theorem d_SM_push_0 : decode b_SM_push 0 = .ok (.aload_n 0, 1) := by decide +kernel
theorem d_SM_push_1 : decode b_SM_push 1 = .ok (.getfield 11, 3) := by decide +kernel
theorem d_SM_push_4 : decode b_SM_push 4 = .ok (.aload_n 0, 1) := by decide +kernel
theorem d_SM_push_5 : decode b_SM_push 5 = .ok (.getfield 15, 3) := by decide +kernel
theorem d_SM_push_8 : decode b_SM_push 8 = .ok (.iload_n 1, 1) := by decide +kernel
theorem d_SM_push_9 : decode b_SM_push 9 = .ok (.iastore, 1) := by decide +kernel
theorem d_SM_push_10 : decode b_SM_push 10 = .ok (.aload_n 0, 1) := by decide +kernel
theorem d_SM_push_11 : decode b_SM_push 11 = .ok (.dup, 1) := by decide +kernel
theorem d_SM_push_12 : decode b_SM_push 12 = .ok (.getfield 15, 3) := by decide +kernel
theorem d_SM_push_15 : decode b_SM_push 15 = .ok (.iconst 1, 1) := by decide +kernel
theorem d_SM_push_16 : decode b_SM_push 16 = .ok (.iadd, 1) := by decide +kernel
theorem d_SM_push_17 : decode b_SM_push 17 = .ok (.putfield 15, 3) := by decide +kernel
theorem d_SM_push_20 : decode b_SM_push 20 = .ok (.return_, 1) := by decide +kernel
theorem d_SM_fetch_0 : decode b_SM_fetch 0 = .ok (.iload_n 1, 1) := by decide +kernel
theorem d_SM_fetch_1 : decode b_SM_fetch 1 = .ok (.lookupswitch 56 #[(1, 35), (2, 39), (9, 44)], 35) := by decide +kernel
theorem d_SM_fetch_36 : decode b_SM_fetch 36 = .ok (.aload_n 3, 1) := by decide +kernel
theorem d_SM_fetch_37 : decode b_SM_fetch 37 = .ok (.iload_n 2, 1) := by decide +kernel
theorem d_SM_fetch_38 : decode b_SM_fetch 38 = .ok (.iaload, 1) := by decide +kernel
theorem d_SM_fetch_39 : decode b_SM_fetch 39 = .ok (.ireturn, 1) := by decide +kernel
theorem d_SM_fetch_40 : decode b_SM_fetch 40 = .ok (.aload 4, 2) := by decide +kernel
theorem d_SM_fetch_42 : decode b_SM_fetch 42 = .ok (.iload_n 2, 1) := by decide +kernel
theorem d_SM_fetch_43 : decode b_SM_fetch 43 = .ok (.iaload, 1) := by decide +kernel
theorem d_SM_fetch_44 : decode b_SM_fetch 44 = .ok (.ireturn, 1) := by decide +kernel
theorem d_SM_fetch_45 : decode b_SM_fetch 45 = .ok (.aload_n 0, 1) := by decide +kernel
theorem d_SM_fetch_46 : decode b_SM_fetch 46 = .ok (.getfield 11, 3) := by decide +kernel
theorem d_SM_fetch_49 : decode b_SM_fetch 49 = .ok (.aload_n 0, 1) := by decide +kernel
theorem d_SM_fetch_50 : decode b_SM_fetch 50 = .ok (.getfield 15, 3) := by decide +kernel
theorem d_SM_fetch_53 : decode b_SM_fetch 53 = .ok (.iconst 1, 1) := by decide +kernel
theorem d_SM_fetch_54 : decode b_SM_fetch 54 = .ok (.isub, 1) := by decide +kernel
theorem d_SM_fetch_55 : decode b_SM_fetch 55 = .ok (.iaload, 1) := by decide +kernel
theorem d_SM_fetch_56 : decode b_SM_fetch 56 = .ok (.ireturn, 1) := by decide +kernel
theorem d_SM_fetch_57 : decode b_SM_fetch 57 = .ok (.iload_n 2, 1) := by decide +kernel
theorem d_SM_fetch_58 : decode b_SM_fetch 58 = .ok (.ireturn, 1) := by decide +kernel
theorem d_ND_accusersOf_0 : decode b_ND_accusersOf 0 = .ok (.iconst 0, 1) := by decide +kernel
theorem d_ND_accusersOf_1 : decode b_ND_accusersOf 1 = .ok (.istore_n 2, 1) := by decide +kernel
theorem d_ND_accusersOf_2 : decode b_ND_accusersOf 2 = .ok (.iconst 0, 1) := by decide +kernel
theorem d_ND_accusersOf_3 : decode b_ND_accusersOf 3 = .ok (.istore_n 3, 1) := by decide +kernel
theorem d_ND_accusersOf_4 : decode b_ND_accusersOf 4 = .ok (.iload_n 3, 1) := by decide +kernel
theorem d_ND_accusersOf_5 : decode b_ND_accusersOf 5 = .ok (.aload_n 0, 1) := by decide +kernel
theorem d_ND_accusersOf_6 : decode b_ND_accusersOf 6 = .ok (.getfield 31, 3) := by decide +kernel
theorem d_ND_accusersOf_9 : decode b_ND_accusersOf 9 = .ok (.arraylength, 1) := by decide +kernel
theorem d_ND_accusersOf_10 : decode b_ND_accusersOf 10 = .ok (.if_icmp .ge 41, 3) := by decide +kernel
theorem d_ND_accusersOf_13 : decode b_ND_accusersOf 13 = .ok (.iload_n 3, 1) := by decide +kernel
theorem d_ND_accusersOf_14 : decode b_ND_accusersOf 14 = .ok (.iload_n 1, 1) := by decide +kernel
theorem d_ND_accusersOf_15 : decode b_ND_accusersOf 15 = .ok (.if_icmp .eq 30, 3) := by decide +kernel
theorem d_ND_accusersOf_18 : decode b_ND_accusersOf 18 = .ok (.aload_n 0, 1) := by decide +kernel
theorem d_ND_accusersOf_19 : decode b_ND_accusersOf 19 = .ok (.getfield 34, 3) := by decide +kernel
theorem d_ND_accusersOf_22 : decode b_ND_accusersOf 22 = .ok (.iload_n 3, 1) := by decide +kernel
theorem d_ND_accusersOf_23 : decode b_ND_accusersOf 23 = .ok (.invokestatic 53, 3) := by decide +kernel
theorem d_ND_accusersOf_26 : decode b_ND_accusersOf 26 = .ok (.ifCond .eq 19, 3) := by decide +kernel
theorem d_ND_accusersOf_29 : decode b_ND_accusersOf 29 = .ok (.aload_n 0, 1) := by decide +kernel
theorem d_ND_accusersOf_30 : decode b_ND_accusersOf 30 = .ok (.getfield 31, 3) := by decide +kernel
theorem d_ND_accusersOf_33 : decode b_ND_accusersOf 33 = .ok (.iload_n 3, 1) := by decide +kernel
theorem d_ND_accusersOf_34 : decode b_ND_accusersOf 34 = .ok (.iaload, 1) := by decide +kernel
theorem d_ND_accusersOf_35 : decode b_ND_accusersOf 35 = .ok (.iload_n 1, 1) := by decide +kernel
theorem d_ND_accusersOf_36 : decode b_ND_accusersOf 36 = .ok (.invokestatic 53, 3) := by decide +kernel
theorem d_ND_accusersOf_39 : decode b_ND_accusersOf 39 = .ok (.ifCond .eq 6, 3) := by decide +kernel
theorem d_ND_accusersOf_42 : decode b_ND_accusersOf 42 = .ok (.iinc 2 1, 3) := by decide +kernel
theorem d_ND_accusersOf_45 : decode b_ND_accusersOf 45 = .ok (.iinc 3 1, 3) := by decide +kernel
theorem d_ND_accusersOf_48 : decode b_ND_accusersOf 48 = .ok (.goto (-44), 3) := by decide +kernel
theorem d_ND_accusersOf_51 : decode b_ND_accusersOf 51 = .ok (.iload_n 2, 1) := by decide +kernel
theorem d_ND_accusersOf_52 : decode b_ND_accusersOf 52 = .ok (.ireturn, 1) := by decide +kernel
theorem d_ND_differenceTo_0 : decode b_ND_differenceTo 0 = .ok (.aload_n 1, 1) := by decide +kernel
theorem d_ND_differenceTo_1 : decode b_ND_differenceTo 1 = .ok (.aload_n 0, 1) := by decide +kernel
theorem d_ND_differenceTo_2 : decode b_ND_differenceTo 2 = .ok (.getfield 19, 3) := by decide +kernel
theorem d_ND_differenceTo_5 : decode b_ND_differenceTo 5 = .ok (.invokevirtual 70, 3) := by decide +kernel
theorem d_ND_differenceTo_8 : decode b_ND_differenceTo 8 = .ok (.aload_n 0, 1) := by decide +kernel
theorem d_ND_differenceTo_9 : decode b_ND_differenceTo 9 = .ok (.getfield 25, 3) := by decide +kernel
theorem d_ND_differenceTo_12 : decode b_ND_differenceTo 12 = .ok (.aload_n 1, 1) := by decide +kernel
theorem d_ND_differenceTo_13 : decode b_ND_differenceTo 13 = .ok (.getfield 19, 3) := by decide +kernel
theorem d_ND_differenceTo_16 : decode b_ND_differenceTo 16 = .ok (.iaload, 1) := by decide +kernel
theorem d_ND_differenceTo_17 : decode b_ND_differenceTo 17 = .ok (.iadd, 1) := by decide +kernel
theorem d_ND_differenceTo_18 : decode b_ND_differenceTo 18 = .ok (.aload_n 0, 1) := by decide +kernel
theorem d_ND_differenceTo_19 : decode b_ND_differenceTo 19 = .ok (.getfield 57, 3) := by decide +kernel
theorem d_ND_differenceTo_22 : decode b_ND_differenceTo 22 = .ok (.isub, 1) := by decide +kernel
theorem d_ND_differenceTo_23 : decode b_ND_differenceTo 23 = .ok (.ireturn, 1) := by decide +kernel
theorem d_ND_shows_0 : decode b_ND_shows 0 = .ok (.aload_n 0, 1) := by decide +kernel
theorem d_ND_shows_1 : decode b_ND_shows 1 = .ok (.getfield 15, 3) := by decide +kernel
theorem d_ND_shows_4 : decode b_ND_shows 4 = .ok (.iconst 5, 1) := by decide +kernel
theorem d_ND_shows_5 : decode b_ND_shows 5 = .ok (.if_icmp .ne 10, 3) := by decide +kernel
theorem d_ND_shows_8 : decode b_ND_shows 8 = .ok (.aload_n 0, 1) := by decide +kernel
theorem d_ND_shows_9 : decode b_ND_shows 9 = .ok (.getfield 57, 3) := by decide +kernel
theorem d_ND_shows_12 : decode b_ND_shows 12 = .ok (.goto 13, 3) := by decide +kernel
theorem d_ND_shows_15 : decode b_ND_shows 15 = .ok (.aload_n 0, 1) := by decide +kernel
theorem d_ND_shows_16 : decode b_ND_shows 16 = .ok (.aload_n 0, 1) := by decide +kernel
theorem d_ND_shows_17 : decode b_ND_shows 17 = .ok (.getfield 57, 3) := by decide +kernel
theorem d_ND_shows_20 : decode b_ND_shows 20 = .ok (.iload_n 1, 1) := by decide +kernel
theorem d_ND_shows_21 : decode b_ND_shows 21 = .ok (.iconst 0, 1) := by decide +kernel
theorem d_ND_shows_22 : decode b_ND_shows 22 = .ok (.invokevirtual 66, 3) := by decide +kernel
theorem d_ND_shows_25 : decode b_ND_shows 25 = .ok (.ireturn, 1) := by decide +kernel
theorem d_ND_holdsTheSameAs_0 : decode b_ND_holdsTheSameAs 0 = .ok (.aload_n 0, 1) := by decide +kernel
theorem d_ND_holdsTheSameAs_1 : decode b_ND_holdsTheSameAs 1 = .ok (.getfield 34, 3) := by decide +kernel
theorem d_ND_holdsTheSameAs_4 : decode b_ND_holdsTheSameAs 4 = .ok (.aload_n 1, 1) := by decide +kernel
theorem d_ND_holdsTheSameAs_5 : decode b_ND_holdsTheSameAs 5 = .ok (.getfield 34, 3) := by decide +kernel
theorem d_ND_holdsTheSameAs_8 : decode b_ND_holdsTheSameAs 8 = .ok (.if_icmp .ne 35, 3) := by decide +kernel
theorem d_ND_holdsTheSameAs_11 : decode b_ND_holdsTheSameAs 11 = .ok (.aload_n 0, 1) := by decide +kernel
theorem d_ND_holdsTheSameAs_12 : decode b_ND_holdsTheSameAs 12 = .ok (.getfield 9, 3) := by decide +kernel
theorem d_ND_holdsTheSameAs_15 : decode b_ND_holdsTheSameAs 15 = .ok (.aload_n 1, 1) := by decide +kernel
theorem d_ND_holdsTheSameAs_16 : decode b_ND_holdsTheSameAs 16 = .ok (.getfield 9, 3) := by decide +kernel
theorem d_ND_holdsTheSameAs_19 : decode b_ND_holdsTheSameAs 19 = .ok (.invokestatic 73, 3) := by decide +kernel
theorem d_ND_holdsTheSameAs_22 : decode b_ND_holdsTheSameAs 22 = .ok (.ifCond .eq 21, 3) := by decide +kernel
theorem d_ND_holdsTheSameAs_25 : decode b_ND_holdsTheSameAs 25 = .ok (.aload_n 0, 1) := by decide +kernel
theorem d_ND_holdsTheSameAs_26 : decode b_ND_holdsTheSameAs 26 = .ok (.getfield 28, 3) := by decide +kernel
theorem d_ND_holdsTheSameAs_29 : decode b_ND_holdsTheSameAs 29 = .ok (.aload_n 1, 1) := by decide +kernel
theorem d_ND_holdsTheSameAs_30 : decode b_ND_holdsTheSameAs 30 = .ok (.getfield 28, 3) := by decide +kernel
theorem d_ND_holdsTheSameAs_33 : decode b_ND_holdsTheSameAs 33 = .ok (.invokestatic 73, 3) := by decide +kernel
theorem d_ND_holdsTheSameAs_36 : decode b_ND_holdsTheSameAs 36 = .ok (.ifCond .eq 7, 3) := by decide +kernel
theorem d_ND_holdsTheSameAs_39 : decode b_ND_holdsTheSameAs 39 = .ok (.iconst 1, 1) := by decide +kernel
theorem d_ND_holdsTheSameAs_40 : decode b_ND_holdsTheSameAs 40 = .ok (.goto 4, 3) := by decide +kernel
theorem d_ND_holdsTheSameAs_43 : decode b_ND_holdsTheSameAs 43 = .ok (.iconst 0, 1) := by decide +kernel
theorem d_ND_holdsTheSameAs_44 : decode b_ND_holdsTheSameAs 44 = .ok (.ireturn, 1) := by decide +kernel
theorem d_ND_sameRow_0 : decode b_ND_sameRow 0 = .ok (.iconst 0, 1) := by decide +kernel
theorem d_ND_sameRow_1 : decode b_ND_sameRow 1 = .ok (.istore_n 2, 1) := by decide +kernel
theorem d_ND_sameRow_2 : decode b_ND_sameRow 2 = .ok (.iload_n 2, 1) := by decide +kernel
theorem d_ND_sameRow_3 : decode b_ND_sameRow 3 = .ok (.aload_n 0, 1) := by decide +kernel
theorem d_ND_sameRow_4 : decode b_ND_sameRow 4 = .ok (.arraylength, 1) := by decide +kernel
theorem d_ND_sameRow_5 : decode b_ND_sameRow 5 = .ok (.if_icmp .ge 26, 3) := by decide +kernel
theorem d_ND_sameRow_8 : decode b_ND_sameRow 8 = .ok (.iload_n 2, 1) := by decide +kernel
theorem d_ND_sameRow_9 : decode b_ND_sameRow 9 = .ok (.aload_n 1, 1) := by decide +kernel
theorem d_ND_sameRow_10 : decode b_ND_sameRow 10 = .ok (.arraylength, 1) := by decide +kernel
theorem d_ND_sameRow_11 : decode b_ND_sameRow 11 = .ok (.if_icmp .ge 20, 3) := by decide +kernel
theorem d_ND_sameRow_14 : decode b_ND_sameRow 14 = .ok (.aload_n 0, 1) := by decide +kernel
theorem d_ND_sameRow_15 : decode b_ND_sameRow 15 = .ok (.iload_n 2, 1) := by decide +kernel
theorem d_ND_sameRow_16 : decode b_ND_sameRow 16 = .ok (.iaload, 1) := by decide +kernel
theorem d_ND_sameRow_17 : decode b_ND_sameRow 17 = .ok (.aload_n 1, 1) := by decide +kernel
theorem d_ND_sameRow_18 : decode b_ND_sameRow 18 = .ok (.iload_n 2, 1) := by decide +kernel
theorem d_ND_sameRow_19 : decode b_ND_sameRow 19 = .ok (.iaload, 1) := by decide +kernel
theorem d_ND_sameRow_20 : decode b_ND_sameRow 20 = .ok (.if_icmp .eq 5, 3) := by decide +kernel
theorem d_ND_sameRow_23 : decode b_ND_sameRow 23 = .ok (.iconst 0, 1) := by decide +kernel
theorem d_ND_sameRow_24 : decode b_ND_sameRow 24 = .ok (.ireturn, 1) := by decide +kernel
theorem d_ND_sameRow_25 : decode b_ND_sameRow 25 = .ok (.iinc 2 1, 3) := by decide +kernel
theorem d_ND_sameRow_28 : decode b_ND_sameRow 28 = .ok (.goto (-26), 3) := by decide +kernel
theorem d_ND_sameRow_31 : decode b_ND_sameRow 31 = .ok (.iconst 1, 1) := by decide +kernel
theorem d_ND_sameRow_32 : decode b_ND_sameRow 32 = .ok (.ireturn, 1) := by decide +kernel
