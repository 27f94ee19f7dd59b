theorem dX11_wake_0 : decode cX11_wake 0 = .ok (.aload_n 0, 1) := by decide +kernel
theorem dX11_wake_1 : decode cX11_wake 1 = .ok (.getfield 19, 3) := by decide +kernel
theorem dX11_wake_4 : decode cX11_wake 4 = .ok (.iload_n 1, 1) := by decide +kernel
theorem dX11_wake_5 : decode cX11_wake 5 = .ok (.invokevirtual 101, 3) := by decide +kernel
theorem dX11_wake_8 : decode cX11_wake 8 = .ok (.ifCond .ne 6, 3) := by decide +kernel
theorem dX11_wake_11 : decode cX11_wake 11 = .ok (.bipush (-101), 2) := by decide +kernel
theorem dX11_wake_13 : decode cX11_wake 13 = .ok (.ireturn, 1) := by decide +kernel
theorem dX11_wake_14 : decode cX11_wake 14 = .ok (.aload_n 0, 1) := by decide +kernel
theorem dX11_wake_15 : decode cX11_wake 15 = .ok (.getfield 19, 3) := by decide +kernel
theorem dX11_wake_18 : decode cX11_wake 18 = .ok (.getfield 113, 3) := by decide +kernel
theorem dX11_wake_21 : decode cX11_wake 21 = .ok (.iload_n 1, 1) := by decide +kernel
theorem dX11_wake_22 : decode cX11_wake 22 = .ok (.baload, 1) := by decide +kernel
theorem dX11_wake_23 : decode cX11_wake 23 = .ok (.iload_n 2, 1) := by decide +kernel
theorem dX11_wake_24 : decode cX11_wake 24 = .ok (.if_icmp .ne 7, 3) := by decide +kernel
theorem dX11_wake_27 : decode cX11_wake 27 = .ok (.iconst 0, 1) := by decide +kernel
theorem dX11_wake_28 : decode cX11_wake 28 = .ok (.goto 4, 3) := by decide +kernel
theorem dX11_wake_31 : decode cX11_wake 31 = .ok (.iconst 1, 1) := by decide +kernel
theorem dX11_wake_32 : decode cX11_wake 32 = .ok (.istore_n 3, 1) := by decide +kernel
theorem dX11_wake_33 : decode cX11_wake 33 = .ok (.aload_n 0, 1) := by decide +kernel
theorem dX11_wake_34 : decode cX11_wake 34 = .ok (.getfield 19, 3) := by decide +kernel
theorem dX11_wake_37 : decode cX11_wake 37 = .ok (.getfield 113, 3) := by decide +kernel
theorem dX11_wake_40 : decode cX11_wake 40 = .ok (.iload_n 1, 1) := by decide +kernel
theorem dX11_wake_41 : decode cX11_wake 41 = .ok (.iload_n 2, 1) := by decide +kernel
theorem dX11_wake_42 : decode cX11_wake 42 = .ok (.bastore, 1) := by decide +kernel
theorem dX11_wake_43 : decode cX11_wake 43 = .ok (.aload_n 0, 1) := by decide +kernel
theorem dX11_wake_44 : decode cX11_wake 44 = .ok (.iload_n 3, 1) := by decide +kernel
theorem dX11_wake_45 : decode cX11_wake 45 = .ok (.invokevirtual 93, 3) := by decide +kernel
theorem dX11_wake_48 : decode cX11_wake 48 = .ok (.ireturn, 1) := by decide +kernel
theorem dX11_act_0 : decode cX11_act 0 = .ok (.iload_n 2, 1) := by decide +kernel
theorem dX11_act_1 : decode cX11_act 1 = .ok (.iconst (-1), 1) := by decide +kernel
theorem dX11_act_2 : decode cX11_act 2 = .ok (.if_icmp .eq 17, 3) := by decide +kernel
theorem dX11_act_5 : decode cX11_act 5 = .ok (.aload_n 0, 1) := by decide +kernel
theorem dX11_act_6 : decode cX11_act 6 = .ok (.getfield 10, 3) := by decide +kernel
theorem dX11_act_9 : decode cX11_act 9 = .ok (.iload_n 2, 1) := by decide +kernel
theorem dX11_act_10 : decode cX11_act 10 = .ok (.invokevirtual 117, 3) := by decide +kernel
theorem dX11_act_13 : decode cX11_act 13 = .ok (.ifCond .ne 6, 3) := by decide +kernel
theorem dX11_act_16 : decode cX11_act 16 = .ok (.bipush (-101), 2) := by decide +kernel
theorem dX11_act_18 : decode cX11_act 18 = .ok (.ireturn, 1) := by decide +kernel
theorem dX11_act_19 : decode cX11_act 19 = .ok (.iload_n 1, 1) := by decide +kernel
theorem dX11_act_20 : decode cX11_act 20 = .ok (.ifCond .lt 9, 3) := by decide +kernel
theorem dX11_act_23 : decode cX11_act 23 = .ok (.iload_n 1, 1) := by decide +kernel
theorem dX11_act_24 : decode cX11_act 24 = .ok (.bipush 7, 2) := by decide +kernel
theorem dX11_act_26 : decode cX11_act 26 = .ok (.if_icmp .lt 6, 3) := by decide +kernel
theorem dX11_act_29 : decode cX11_act 29 = .ok (.bipush (-102), 2) := by decide +kernel
theorem dX11_act_31 : decode cX11_act 31 = .ok (.ireturn, 1) := by decide +kernel
theorem dX11_act_32 : decode cX11_act 32 = .ok (.aload_n 0, 1) := by decide +kernel
theorem dX11_act_33 : decode cX11_act 33 = .ok (.getfield 26, 3) := by decide +kernel
theorem dX11_act_36 : decode cX11_act 36 = .ok (.getfield 120, 3) := by decide +kernel
theorem dX11_act_39 : decode cX11_act 39 = .ok (.iload_n 1, 1) := by decide +kernel
theorem dX11_act_40 : decode cX11_act 40 = .ok (.iaload, 1) := by decide +kernel
theorem dX11_act_41 : decode cX11_act 41 = .ok (.istore_n 3, 1) := by decide +kernel
theorem dX11_act_42 : decode cX11_act 42 = .ok (.aload_n 0, 1) := by decide +kernel
theorem dX11_act_43 : decode cX11_act 43 = .ok (.getfield 26, 3) := by decide +kernel
theorem dX11_act_46 : decode cX11_act 46 = .ok (.getfield 120, 3) := by decide +kernel
theorem dX11_act_49 : decode cX11_act 49 = .ok (.iload_n 1, 1) := by decide +kernel
theorem dX11_act_50 : decode cX11_act 50 = .ok (.iload_n 2, 1) := by decide +kernel
theorem dX11_act_51 : decode cX11_act 51 = .ok (.iastore, 1) := by decide +kernel
theorem dX11_act_52 : decode cX11_act 52 = .ok (.aload_n 0, 1) := by decide +kernel
theorem dX11_act_53 : decode cX11_act 53 = .ok (.iload_n 3, 1) := by decide +kernel
theorem dX11_act_54 : decode cX11_act 54 = .ok (.invokevirtual 93, 3) := by decide +kernel
theorem dX11_act_57 : decode cX11_act 57 = .ok (.ireturn, 1) := by decide +kernel
theorem dX11_fold_0 : decode cX11_fold 0 = .ok (.iload_n 1, 1) := by decide +kernel
theorem dX11_fold_1 : decode cX11_fold 1 = .ok (.ifCond .lt 8, 3) := by decide +kernel
theorem dX11_fold_4 : decode cX11_fold 4 = .ok (.iload_n 1, 1) := by decide +kernel
theorem dX11_fold_5 : decode cX11_fold 5 = .ok (.iconst 3, 1) := by decide +kernel
theorem dX11_fold_6 : decode cX11_fold 6 = .ok (.if_icmp .le 6, 3) := by decide +kernel
theorem dX11_fold_9 : decode cX11_fold 9 = .ok (.bipush (-102), 2) := by decide +kernel
theorem dX11_fold_11 : decode cX11_fold 11 = .ok (.ireturn, 1) := by decide +kernel
theorem dX11_fold_12 : decode cX11_fold 12 = .ok (.aload_n 0, 1) := by decide +kernel
theorem dX11_fold_13 : decode cX11_fold 13 = .ok (.getfield 26, 3) := by decide +kernel
theorem dX11_fold_16 : decode cX11_fold 16 = .ok (.getfield 124, 3) := by decide +kernel
theorem dX11_fold_19 : decode cX11_fold 19 = .ok (.istore_n 2, 1) := by decide +kernel
theorem dX11_fold_20 : decode cX11_fold 20 = .ok (.aload_n 0, 1) := by decide +kernel
theorem dX11_fold_21 : decode cX11_fold 21 = .ok (.getfield 26, 3) := by decide +kernel
theorem dX11_fold_24 : decode cX11_fold 24 = .ok (.iload_n 1, 1) := by decide +kernel
theorem dX11_fold_25 : decode cX11_fold 25 = .ok (.putfield 124, 3) := by decide +kernel
theorem dX11_fold_28 : decode cX11_fold 28 = .ok (.aload_n 0, 1) := by decide +kernel
theorem dX11_fold_29 : decode cX11_fold 29 = .ok (.iload_n 2, 1) := by decide +kernel
theorem dX11_fold_30 : decode cX11_fold 30 = .ok (.invokevirtual 93, 3) := by decide +kernel
theorem dX11_fold_33 : decode cX11_fold 33 = .ok (.ireturn, 1) := by decide +kernel
theorem dX11_ask_0 : decode cX11_ask 0 = .ok (.aload_n 0, 1) := by decide +kernel
theorem dX11_ask_1 : decode cX11_ask 1 = .ok (.iconst 0, 1) := by decide +kernel
theorem dX11_ask_2 : decode cX11_ask 2 = .ok (.putfield 144, 3) := by decide +kernel
theorem dX11_ask_5 : decode cX11_ask 5 = .ok (.aload_n 0, 1) := by decide +kernel
theorem dX11_ask_6 : decode cX11_ask 6 = .ok (.getfield 10, 3) := by decide +kernel
theorem dX11_ask_9 : decode cX11_ask 9 = .ok (.iload_n 1, 1) := by decide +kernel
theorem dX11_ask_10 : decode cX11_ask 10 = .ok (.invokevirtual 117, 3) := by decide +kernel
theorem dX11_ask_13 : decode cX11_ask 13 = .ok (.ifCond .eq 14, 3) := by decide +kernel
theorem dX11_ask_16 : decode cX11_ask 16 = .ok (.aload_n 0, 1) := by decide +kernel
theorem dX11_ask_17 : decode cX11_ask 17 = .ok (.getfield 19, 3) := by decide +kernel
theorem dX11_ask_20 : decode cX11_ask 20 = .ok (.iload_n 2, 1) := by decide +kernel
theorem dX11_ask_21 : decode cX11_ask 21 = .ok (.invokevirtual 101, 3) := by decide +kernel
theorem dX11_ask_24 : decode cX11_ask 24 = .ok (.ifCond .ne 7, 3) := by decide +kernel
theorem dX11_ask_27 : decode cX11_ask 27 = .ok (.ldc2_w 147, 3) := by decide +kernel
theorem dX11_ask_30 : decode cX11_ask 30 = .ok (.lreturn, 1) := by decide +kernel
theorem dX11_ask_31 : decode cX11_ask 31 = .ok (.iload_n 3, 1) := by decide +kernel
theorem dX11_ask_32 : decode cX11_ask 32 = .ok (.iconst (-1), 1) := by decide +kernel
theorem dX11_ask_33 : decode cX11_ask 33 = .ok (.if_icmp .eq 18, 3) := by decide +kernel
theorem dX11_ask_36 : decode cX11_ask 36 = .ok (.aload_n 0, 1) := by decide +kernel
theorem dX11_ask_37 : decode cX11_ask 37 = .ok (.getfield 19, 3) := by decide +kernel
theorem dX11_ask_40 : decode cX11_ask 40 = .ok (.iload_n 3, 1) := by decide +kernel
theorem dX11_ask_41 : decode cX11_ask 41 = .ok (.invokevirtual 149, 3) := by decide +kernel
theorem dX11_ask_44 : decode cX11_ask 44 = .ok (.ifCond .ne 7, 3) := by decide +kernel
theorem dX11_ask_47 : decode cX11_ask 47 = .ok (.ldc2_w 147, 3) := by decide +kernel
theorem dX11_ask_50 : decode cX11_ask 50 = .ok (.lreturn, 1) := by decide +kernel
theorem dX11_ask_51 : decode cX11_ask 51 = .ok (.aload_n 0, 1) := by decide +kernel
theorem dX11_ask_52 : decode cX11_ask 52 = .ok (.getfield 56, 3) := by decide +kernel
theorem dX11_ask_55 : decode cX11_ask 55 = .ok (.invokevirtual 152, 3) := by decide +kernel
theorem dX11_ask_58 : decode cX11_ask 58 = .ok (.aload_n 0, 1) := by decide +kernel
theorem dX11_ask_59 : decode cX11_ask 59 = .ok (.getfield 56, 3) := by decide +kernel
theorem dX11_ask_62 : decode cX11_ask 62 = .ok (.iload_n 1, 1) := by decide +kernel
theorem dX11_ask_63 : decode cX11_ask 63 = .ok (.iload_n 2, 1) := by decide +kernel
theorem dX11_ask_64 : decode cX11_ask 64 = .ok (.iload_n 3, 1) := by decide +kernel
theorem dX11_ask_65 : decode cX11_ask 65 = .ok (.iconst 0, 1) := by decide +kernel
theorem dX11_ask_66 : decode cX11_ask 66 = .ok (.invokevirtual 155, 3) := by decide +kernel
theorem dX11_ask_69 : decode cX11_ask 69 = .ok (.lstore 4, 2) := by decide +kernel
theorem dX11_ask_71 : decode cX11_ask 71 = .ok (.aload_n 0, 1) := by decide +kernel
theorem dX11_ask_72 : decode cX11_ask 72 = .ok (.aload_n 0, 1) := by decide +kernel
theorem dX11_ask_73 : decode cX11_ask 73 = .ok (.getfield 56, 3) := by decide +kernel
theorem dX11_ask_76 : decode cX11_ask 76 = .ok (.getfield 159, 3) := by decide +kernel
theorem dX11_ask_79 : decode cX11_ask 79 = .ok (.putfield 144, 3) := by decide +kernel
theorem dX11_ask_82 : decode cX11_ask 82 = .ok (.lload 4, 2) := by decide +kernel
theorem dX11_ask_84 : decode cX11_ask 84 = .ok (.lreturn, 1) := by decide +kernel
theorem dX11_state_0 : decode cX11_state 0 = .ok (.aload_n 0, 1) := by decide +kernel
theorem dX11_state_1 : decode cX11_state 1 = .ok (.getfield 19, 3) := by decide +kernel
theorem dX11_state_4 : decode cX11_state 4 = .ok (.iload_n 1, 1) := by decide +kernel
theorem dX11_state_5 : decode cX11_state 5 = .ok (.invokevirtual 101, 3) := by decide +kernel
theorem dX11_state_8 : decode cX11_state 8 = .ok (.ifCond .ne 7, 3) := by decide +kernel
theorem dX11_state_11 : decode cX11_state 11 = .ok (.ldc2_w 147, 3) := by decide +kernel
theorem dX11_state_14 : decode cX11_state 14 = .ok (.lreturn, 1) := by decide +kernel
theorem dX11_state_15 : decode cX11_state 15 = .ok (.iload_n 2, 1) := by decide +kernel
theorem dX11_state_16 : decode cX11_state 16 = .ok (.i2l, 1) := by decide +kernel
theorem dX11_state_17 : decode cX11_state 17 = .ok (.invokestatic 105, 3) := by decide +kernel
theorem dX11_state_20 : decode cX11_state 20 = .ok (.ifCond .eq 19, 3) := by decide +kernel
theorem dX11_state_23 : decode cX11_state 23 = .ok (.aload_n 0, 1) := by decide +kernel
theorem dX11_state_24 : decode cX11_state 24 = .ok (.getfield 19, 3) := by decide +kernel
theorem dX11_state_27 : decode cX11_state 27 = .ok (.getfield 109, 3) := by decide +kernel
theorem dX11_state_30 : decode cX11_state 30 = .ok (.iload_n 1, 1) := by decide +kernel
theorem dX11_state_31 : decode cX11_state 31 = .ok (.iconst 3, 1) := by decide +kernel
theorem dX11_state_32 : decode cX11_state 32 = .ok (.imul, 1) := by decide +kernel
theorem dX11_state_33 : decode cX11_state 33 = .ok (.iload_n 2, 1) := by decide +kernel
theorem dX11_state_34 : decode cX11_state 34 = .ok (.iadd, 1) := by decide +kernel
theorem dX11_state_35 : decode cX11_state 35 = .ok (.laload, 1) := by decide +kernel
theorem dX11_state_36 : decode cX11_state 36 = .ok (.goto 6, 3) := by decide +kernel
theorem dX11_state_39 : decode cX11_state 39 = .ok (.ldc2_w 162, 3) := by decide +kernel
theorem dX11_state_42 : decode cX11_state 42 = .ok (.lreturn, 1) := by decide +kernel
theorem dX0_comesTo_0 : decode cX0_comesTo 0 = .ok (.aload_n 0, 1) := by decide +kernel
theorem dX0_comesTo_1 : decode cX0_comesTo 1 = .ok (.getfield 15, 3) := by decide +kernel
theorem dX0_comesTo_4 : decode cX0_comesTo 4 = .ok (.getfield 27, 3) := by decide +kernel
theorem dX0_comesTo_7 : decode cX0_comesTo 7 = .ok (.iload_n 1, 1) := by decide +kernel
theorem dX0_comesTo_8 : decode cX0_comesTo 8 = .ok (.iaload, 1) := by decide +kernel
theorem dX0_comesTo_9 : decode cX0_comesTo 9 = .ok (.istore 6, 2) := by decide +kernel
theorem dX0_comesTo_11 : decode cX0_comesTo 11 = .ok (.iload 6, 2) := by decide +kernel
theorem dX0_comesTo_13 : decode cX0_comesTo 13 = .ok (.iconst (-1), 1) := by decide +kernel
theorem dX0_comesTo_14 : decode cX0_comesTo 14 = .ok (.if_icmp .ne 6, 3) := by decide +kernel
theorem dX0_comesTo_17 : decode cX0_comesTo 17 = .ok (.lload 4, 2) := by decide +kernel
theorem dX0_comesTo_19 : decode cX0_comesTo 19 = .ok (.lreturn, 1) := by decide +kernel
theorem dX0_comesTo_20 : decode cX0_comesTo 20 = .ok (.aload_n 0, 1) := by decide +kernel
theorem dX0_comesTo_21 : decode cX0_comesTo 21 = .ok (.getfield 19, 3) := by decide +kernel
theorem dX0_comesTo_24 : decode cX0_comesTo 24 = .ok (.iload 6, 2) := by decide +kernel
theorem dX0_comesTo_26 : decode cX0_comesTo 26 = .ok (.iload_n 2, 1) := by decide +kernel
theorem dX0_comesTo_27 : decode cX0_comesTo 27 = .ok (.iload_n 3, 1) := by decide +kernel
theorem dX0_comesTo_28 : decode cX0_comesTo 28 = .ok (.iconst 0, 1) := by decide +kernel
theorem dX0_comesTo_29 : decode cX0_comesTo 29 = .ok (.invokevirtual 33, 3) := by decide +kernel
theorem dX0_comesTo_32 : decode cX0_comesTo 32 = .ok (.lstore 7, 2) := by decide +kernel
theorem dX0_comesTo_34 : decode cX0_comesTo 34 = .ok (.aload_n 0, 1) := by decide +kernel
theorem dX0_comesTo_35 : decode cX0_comesTo 35 = .ok (.getfield 19, 3) := by decide +kernel
theorem dX0_comesTo_38 : decode cX0_comesTo 38 = .ok (.getfield 39, 3) := by decide +kernel
theorem dX0_comesTo_41 : decode cX0_comesTo 41 = .ok (.ifCond .eq 29, 3) := by decide +kernel
theorem dX0_comesTo_44 : decode cX0_comesTo 44 = .ok (.aload_n 0, 1) := by decide +kernel
theorem dX0_comesTo_45 : decode cX0_comesTo 45 = .ok (.getfield 23, 3) := by decide +kernel
theorem dX0_comesTo_48 : decode cX0_comesTo 48 = .ok (.aload_n 0, 1) := by decide +kernel
theorem dX0_comesTo_49 : decode cX0_comesTo 49 = .ok (.getfield 19, 3) := by decide +kernel
theorem dX0_comesTo_52 : decode cX0_comesTo 52 = .ok (.getfield 39, 3) := by decide +kernel
theorem dX0_comesTo_55 : decode cX0_comesTo 55 = .ok (.iload_n 1, 1) := by decide +kernel
theorem dX0_comesTo_56 : decode cX0_comesTo 56 = .ok (.iload_n 2, 1) := by decide +kernel
theorem dX0_comesTo_57 : decode cX0_comesTo 57 = .ok (.iload_n 3, 1) := by decide +kernel
theorem dX0_comesTo_58 : decode cX0_comesTo 58 = .ok (.aload_n 0, 1) := by decide +kernel
theorem dX0_comesTo_59 : decode cX0_comesTo 59 = .ok (.getfield 9, 3) := by decide +kernel
theorem dX0_comesTo_62 : decode cX0_comesTo 62 = .ok (.getfield 43, 3) := by decide +kernel
theorem dX0_comesTo_65 : decode cX0_comesTo 65 = .ok (.iconst 1, 1) := by decide +kernel
theorem dX0_comesTo_66 : decode cX0_comesTo 66 = .ok (.iadd, 1) := by decide +kernel
theorem dX0_comesTo_67 : decode cX0_comesTo 67 = .ok (.invokevirtual 48, 3) := by decide +kernel
theorem dX0_comesTo_70 : decode cX0_comesTo 70 = .ok (.lload 7, 2) := by decide +kernel
theorem dX0_comesTo_72 : decode cX0_comesTo 72 = .ok (.lreturn, 1) := by decide +kernel
theorem dX3_sendAlong_0 : decode cX3_sendAlong 0 = .ok (.aload_n 0, 1) := by decide +kernel
theorem dX3_sendAlong_1 : decode cX3_sendAlong 1 = .ok (.getfield 32, 3) := by decide +kernel
theorem dX3_sendAlong_4 : decode cX3_sendAlong 4 = .ok (.iconst 0, 1) := by decide +kernel
theorem dX3_sendAlong_5 : decode cX3_sendAlong 5 = .ok (.iload_n 1, 1) := by decide +kernel
theorem dX3_sendAlong_6 : decode cX3_sendAlong 6 = .ok (.iload_n 2, 1) := by decide +kernel
theorem dX3_sendAlong_7 : decode cX3_sendAlong 7 = .ok (.lconst 1, 1) := by decide +kernel
theorem dX3_sendAlong_8 : decode cX3_sendAlong 8 = .ok (.invokevirtual 118, 3) := by decide +kernel
theorem dX3_sendAlong_11 : decode cX3_sendAlong 11 = .ok (.lconst 0, 1) := by decide +kernel
theorem dX3_sendAlong_12 : decode cX3_sendAlong 12 = .ok (.lcmp, 1) := by decide +kernel
theorem dX3_sendAlong_13 : decode cX3_sendAlong 13 = .ok (.ifCond .ne 4, 3) := by decide +kernel
theorem dX3_sendAlong_16 : decode cX3_sendAlong 16 = .ok (.return_, 1) := by decide +kernel
theorem dX3_sendAlong_17 : decode cX3_sendAlong 17 = .ok (.aload_n 0, 1) := by decide +kernel
theorem dX3_sendAlong_18 : decode cX3_sendAlong 18 = .ok (.getfield 32, 3) := by decide +kernel
theorem dX3_sendAlong_21 : decode cX3_sendAlong 21 = .ok (.iconst 1, 1) := by decide +kernel
theorem dX3_sendAlong_22 : decode cX3_sendAlong 22 = .ok (.iload_n 1, 1) := by decide +kernel
theorem dX3_sendAlong_23 : decode cX3_sendAlong 23 = .ok (.iload_n 2, 1) := by decide +kernel
theorem dX3_sendAlong_24 : decode cX3_sendAlong 24 = .ok (.lconst 1, 1) := by decide +kernel
theorem dX3_sendAlong_25 : decode cX3_sendAlong 25 = .ok (.invokevirtual 118, 3) := by decide +kernel
theorem dX3_sendAlong_28 : decode cX3_sendAlong 28 = .ok (.lstore_n 3, 1) := by decide +kernel
theorem dX3_sendAlong_29 : decode cX3_sendAlong 29 = .ok (.aload_n 0, 1) := by decide +kernel
theorem dX3_sendAlong_30 : decode cX3_sendAlong 30 = .ok (.getfield 40, 3) := by decide +kernel
theorem dX3_sendAlong_33 : decode cX3_sendAlong 33 = .ok (.invokevirtual 74, 3) := by decide +kernel
theorem dX3_sendAlong_36 : decode cX3_sendAlong 36 = .ok (.ifCond .eq 4, 3) := by decide +kernel
theorem dX3_sendAlong_39 : decode cX3_sendAlong 39 = .ok (.return_, 1) := by decide +kernel
theorem dX3_sendAlong_40 : decode cX3_sendAlong 40 = .ok (.aload_n 0, 1) := by decide +kernel
theorem dX3_sendAlong_41 : decode cX3_sendAlong 41 = .ok (.getfield 68, 3) := by decide +kernel
theorem dX3_sendAlong_44 : decode cX3_sendAlong 44 = .ok (.bipush 60, 2) := by decide +kernel
theorem dX3_sendAlong_46 : decode cX3_sendAlong 46 = .ok (.if_icmp .lt 24, 3) := by decide +kernel
theorem dX3_sendAlong_49 : decode cX3_sendAlong 49 = .ok (.aload_n 0, 1) := by decide +kernel
theorem dX3_sendAlong_50 : decode cX3_sendAlong 50 = .ok (.getfield 40, 3) := by decide +kernel
theorem dX3_sendAlong_53 : decode cX3_sendAlong 53 = .ok (.iconst 5, 1) := by decide +kernel
theorem dX3_sendAlong_54 : decode cX3_sendAlong 54 = .ok (.iconst 1, 1) := by decide +kernel
theorem dX3_sendAlong_55 : decode cX3_sendAlong 55 = .ok (.iload_n 1, 1) := by decide +kernel
theorem dX3_sendAlong_56 : decode cX3_sendAlong 56 = .ok (.iload_n 2, 1) := by decide +kernel
theorem dX3_sendAlong_57 : decode cX3_sendAlong 57 = .ok (.aload_n 0, 1) := by decide +kernel
theorem dX3_sendAlong_58 : decode cX3_sendAlong 58 = .ok (.getfield 31, 3) := by decide +kernel
theorem dX3_sendAlong_61 : decode cX3_sendAlong 61 = .ok (.getfield 122, 3) := by decide +kernel
theorem dX3_sendAlong_64 : decode cX3_sendAlong 64 = .ok (.iconst 1, 1) := by decide +kernel
theorem dX3_sendAlong_65 : decode cX3_sendAlong 65 = .ok (.iadd, 1) := by decide +kernel
theorem dX3_sendAlong_66 : decode cX3_sendAlong 66 = .ok (.invokevirtual 125, 3) := by decide +kernel
theorem dX3_sendAlong_69 : decode cX3_sendAlong 69 = .ok (.return_, 1) := by decide +kernel
theorem dX3_sendAlong_70 : decode cX3_sendAlong 70 = .ok (.aload_n 0, 1) := by decide +kernel
theorem dX3_sendAlong_71 : decode cX3_sendAlong 71 = .ok (.getfield 64, 3) := by decide +kernel
theorem dX3_sendAlong_74 : decode cX3_sendAlong 74 = .ok (.aload_n 0, 1) := by decide +kernel
theorem dX3_sendAlong_75 : decode cX3_sendAlong 75 = .ok (.getfield 68, 3) := by decide +kernel
theorem dX3_sendAlong_78 : decode cX3_sendAlong 78 = .ok (.iadd, 1) := by decide +kernel
theorem dX3_sendAlong_79 : decode cX3_sendAlong 79 = .ok (.bipush 60, 2) := by decide +kernel
theorem dX3_sendAlong_81 : decode cX3_sendAlong 81 = .ok (.irem, 1) := by decide +kernel
theorem dX3_sendAlong_82 : decode cX3_sendAlong 82 = .ok (.istore 5, 2) := by decide +kernel
theorem dX3_sendAlong_84 : decode cX3_sendAlong 84 = .ok (.aload_n 0, 1) := by decide +kernel
theorem dX3_sendAlong_85 : decode cX3_sendAlong 85 = .ok (.getfield 9, 3) := by decide +kernel
theorem dX3_sendAlong_88 : decode cX3_sendAlong 88 = .ok (.iload 5, 2) := by decide +kernel
theorem dX3_sendAlong_90 : decode cX3_sendAlong 90 = .ok (.iload_n 2, 1) := by decide +kernel
theorem dX3_sendAlong_91 : decode cX3_sendAlong 91 = .ok (.iastore, 1) := by decide +kernel
theorem dX3_sendAlong_92 : decode cX3_sendAlong 92 = .ok (.aload_n 0, 1) := by decide +kernel
theorem dX3_sendAlong_93 : decode cX3_sendAlong 93 = .ok (.getfield 15, 3) := by decide +kernel
theorem dX3_sendAlong_96 : decode cX3_sendAlong 96 = .ok (.iload 5, 2) := by decide +kernel
theorem dX3_sendAlong_98 : decode cX3_sendAlong 98 = .ok (.lload_n 3, 1) := by decide +kernel
theorem dX3_sendAlong_99 : decode cX3_sendAlong 99 = .ok (.lastore, 1) := by decide +kernel
theorem dX3_sendAlong_100 : decode cX3_sendAlong 100 = .ok (.aload_n 0, 1) := by decide +kernel
theorem dX3_sendAlong_101 : decode cX3_sendAlong 101 = .ok (.dup, 1) := by decide +kernel
theorem dX3_sendAlong_102 : decode cX3_sendAlong 102 = .ok (.getfield 68, 3) := by decide +kernel
theorem dX3_sendAlong_105 : decode cX3_sendAlong 105 = .ok (.iconst 1, 1) := by decide +kernel
theorem dX3_sendAlong_106 : decode cX3_sendAlong 106 = .ok (.iadd, 1) := by decide +kernel
theorem dX3_sendAlong_107 : decode cX3_sendAlong 107 = .ok (.putfield 68, 3) := by decide +kernel
theorem dX3_sendAlong_110 : decode cX3_sendAlong 110 = .ok (.return_, 1) := by decide +kernel
theorem dX3_takeStates_0 : decode cX3_takeStates 0 = .ok (.iconst 0, 1) := by decide +kernel
theorem dX3_takeStates_1 : decode cX3_takeStates 1 = .ok (.istore_n 2, 1) := by decide +kernel
theorem dX3_takeStates_2 : decode cX3_takeStates 2 = .ok (.iload_n 2, 1) := by decide +kernel
theorem dX3_takeStates_3 : decode cX3_takeStates 3 = .ok (.iconst 3, 1) := by decide +kernel
theorem dX3_takeStates_4 : decode cX3_takeStates 4 = .ok (.if_icmp .ge 44, 3) := by decide +kernel
theorem dX3_takeStates_7 : decode cX3_takeStates 7 = .ok (.aload_n 0, 1) := by decide +kernel
theorem dX3_takeStates_8 : decode cX3_takeStates 8 = .ok (.getfield 19, 3) := by decide +kernel
theorem dX3_takeStates_11 : decode cX3_takeStates 11 = .ok (.iload_n 2, 1) := by decide +kernel
theorem dX3_takeStates_12 : decode cX3_takeStates 12 = .ok (.aload_n 0, 1) := by decide +kernel
theorem dX3_takeStates_13 : decode cX3_takeStates 13 = .ok (.getfield 32, 3) := by decide +kernel
theorem dX3_takeStates_16 : decode cX3_takeStates 16 = .ok (.iconst 2, 1) := by decide +kernel
theorem dX3_takeStates_17 : decode cX3_takeStates 17 = .ok (.iload_n 2, 1) := by decide +kernel
theorem dX3_takeStates_18 : decode cX3_takeStates 18 = .ok (.iadd, 1) := by decide +kernel
theorem dX3_takeStates_19 : decode cX3_takeStates 19 = .ok (.iload_n 1, 1) := by decide +kernel
theorem dX3_takeStates_20 : decode cX3_takeStates 20 = .ok (.iconst (-1), 1) := by decide +kernel
theorem dX3_takeStates_21 : decode cX3_takeStates 21 = .ok (.aload_n 0, 1) := by decide +kernel
theorem dX3_takeStates_22 : decode cX3_takeStates 22 = .ok (.getfield 22, 3) := by decide +kernel
theorem dX3_takeStates_25 : decode cX3_takeStates 25 = .ok (.iload_n 2, 1) := by decide +kernel
theorem dX3_takeStates_26 : decode cX3_takeStates 26 = .ok (.laload, 1) := by decide +kernel
theorem dX3_takeStates_27 : decode cX3_takeStates 27 = .ok (.invokevirtual 118, 3) := by decide +kernel
theorem dX3_takeStates_30 : decode cX3_takeStates 30 = .ok (.lastore, 1) := by decide +kernel
theorem dX3_takeStates_31 : decode cX3_takeStates 31 = .ok (.aload_n 0, 1) := by decide +kernel
theorem dX3_takeStates_32 : decode cX3_takeStates 32 = .ok (.getfield 40, 3) := by decide +kernel
theorem dX3_takeStates_35 : decode cX3_takeStates 35 = .ok (.invokevirtual 74, 3) := by decide +kernel
theorem dX3_takeStates_38 : decode cX3_takeStates 38 = .ok (.ifCond .eq 4, 3) := by decide +kernel
theorem dX3_takeStates_41 : decode cX3_takeStates 41 = .ok (.return_, 1) := by decide +kernel
theorem dX3_takeStates_42 : decode cX3_takeStates 42 = .ok (.iinc 2 1, 3) := by decide +kernel
theorem dX3_takeStates_45 : decode cX3_takeStates 45 = .ok (.goto (-43), 3) := by decide +kernel
theorem dX3_takeStates_48 : decode cX3_takeStates 48 = .ok (.aload_n 0, 1) := by decide +kernel
theorem dX3_takeStates_49 : decode cX3_takeStates 49 = .ok (.getfield 19, 3) := by decide +kernel
theorem dX3_takeStates_52 : decode cX3_takeStates 52 = .ok (.iconst 0, 1) := by decide +kernel
theorem dX3_takeStates_53 : decode cX3_takeStates 53 = .ok (.aload_n 0, 1) := by decide +kernel
theorem dX3_takeStates_54 : decode cX3_takeStates 54 = .ok (.getfield 31, 3) := by decide +kernel
theorem dX3_takeStates_57 : decode cX3_takeStates 57 = .ok (.getfield 132, 3) := by decide +kernel
theorem dX3_takeStates_60 : decode cX3_takeStates 60 = .ok (.iload_n 1, 1) := by decide +kernel
theorem dX3_takeStates_61 : decode cX3_takeStates 61 = .ok (.iconst 3, 1) := by decide +kernel
theorem dX3_takeStates_62 : decode cX3_takeStates 62 = .ok (.imul, 1) := by decide +kernel
theorem dX3_takeStates_63 : decode cX3_takeStates 63 = .ok (.iconst 3, 1) := by decide +kernel
theorem dX3_takeStates_64 : decode cX3_takeStates 64 = .ok (.invokestatic 135, 3) := by decide +kernel
theorem dX3_takeStates_67 : decode cX3_takeStates 67 = .ok (.return_, 1) := by decide +kernel
theorem dX7_sendAlong_0 : decode cX7_sendAlong 0 = .ok (.aload_n 0, 1) := by decide +kernel
theorem dX7_sendAlong_1 : decode cX7_sendAlong 1 = .ok (.getfield 38, 3) := by decide +kernel
theorem dX7_sendAlong_4 : decode cX7_sendAlong 4 = .ok (.getfield 120, 3) := by decide +kernel
theorem dX7_sendAlong_7 : decode cX7_sendAlong 7 = .ok (.iload_n 1, 1) := by decide +kernel
theorem dX7_sendAlong_8 : decode cX7_sendAlong 8 = .ok (.iaload, 1) := by decide +kernel
theorem dX7_sendAlong_9 : decode cX7_sendAlong 9 = .ok (.istore_n 2, 1) := by decide +kernel
theorem dX7_sendAlong_10 : decode cX7_sendAlong 10 = .ok (.aload_n 0, 1) := by decide +kernel
theorem dX7_sendAlong_11 : decode cX7_sendAlong 11 = .ok (.getfield 114, 3) := by decide +kernel
theorem dX7_sendAlong_14 : decode cX7_sendAlong 14 = .ok (.bipush 40, 2) := by decide +kernel
theorem dX7_sendAlong_16 : decode cX7_sendAlong 16 = .ok (.if_icmp .ge 19, 3) := by decide +kernel
theorem dX7_sendAlong_19 : decode cX7_sendAlong 19 = .ok (.aload_n 0, 1) := by decide +kernel
theorem dX7_sendAlong_20 : decode cX7_sendAlong 20 = .ok (.getfield 39, 3) := by decide +kernel
theorem dX7_sendAlong_23 : decode cX7_sendAlong 23 = .ok (.iconst 0, 1) := by decide +kernel
theorem dX7_sendAlong_24 : decode cX7_sendAlong 24 = .ok (.iload_n 2, 1) := by decide +kernel
theorem dX7_sendAlong_25 : decode cX7_sendAlong 25 = .ok (.iload_n 1, 1) := by decide +kernel
theorem dX7_sendAlong_26 : decode cX7_sendAlong 26 = .ok (.lconst 1, 1) := by decide +kernel
theorem dX7_sendAlong_27 : decode cX7_sendAlong 27 = .ok (.invokevirtual 136, 3) := by decide +kernel
theorem dX7_sendAlong_30 : decode cX7_sendAlong 30 = .ok (.lconst 0, 1) := by decide +kernel
theorem dX7_sendAlong_31 : decode cX7_sendAlong 31 = .ok (.lcmp, 1) := by decide +kernel
theorem dX7_sendAlong_32 : decode cX7_sendAlong 32 = .ok (.ifCond .ne 4, 3) := by decide +kernel
theorem dX7_sendAlong_35 : decode cX7_sendAlong 35 = .ok (.return_, 1) := by decide +kernel
theorem dX7_sendAlong_36 : decode cX7_sendAlong 36 = .ok (.aload_n 0, 1) := by decide +kernel
theorem dX7_sendAlong_37 : decode cX7_sendAlong 37 = .ok (.getfield 19, 3) := by decide +kernel
theorem dX7_sendAlong_40 : decode cX7_sendAlong 40 = .ok (.iload_n 1, 1) := by decide +kernel
theorem dX7_sendAlong_41 : decode cX7_sendAlong 41 = .ok (.aload_n 0, 1) := by decide +kernel
theorem dX7_sendAlong_42 : decode cX7_sendAlong 42 = .ok (.getfield 39, 3) := by decide +kernel
theorem dX7_sendAlong_45 : decode cX7_sendAlong 45 = .ok (.iconst 1, 1) := by decide +kernel
theorem dX7_sendAlong_46 : decode cX7_sendAlong 46 = .ok (.iload_n 2, 1) := by decide +kernel
theorem dX7_sendAlong_47 : decode cX7_sendAlong 47 = .ok (.iload_n 1, 1) := by decide +kernel
theorem dX7_sendAlong_48 : decode cX7_sendAlong 48 = .ok (.lconst 1, 1) := by decide +kernel
theorem dX7_sendAlong_49 : decode cX7_sendAlong 49 = .ok (.invokevirtual 136, 3) := by decide +kernel
theorem dX7_sendAlong_52 : decode cX7_sendAlong 52 = .ok (.lastore, 1) := by decide +kernel
theorem dX7_sendAlong_53 : decode cX7_sendAlong 53 = .ok (.aload_n 0, 1) := by decide +kernel
theorem dX7_sendAlong_54 : decode cX7_sendAlong 54 = .ok (.getfield 15, 3) := by decide +kernel
theorem dX7_sendAlong_57 : decode cX7_sendAlong 57 = .ok (.iload_n 1, 1) := by decide +kernel
theorem dX7_sendAlong_58 : decode cX7_sendAlong 58 = .ok (.iconst 1, 1) := by decide +kernel
theorem dX7_sendAlong_59 : decode cX7_sendAlong 59 = .ok (.bastore, 1) := by decide +kernel
theorem dX7_sendAlong_60 : decode cX7_sendAlong 60 = .ok (.aload_n 0, 1) := by decide +kernel
theorem dX7_sendAlong_61 : decode cX7_sendAlong 61 = .ok (.getfield 9, 3) := by decide +kernel
theorem dX7_sendAlong_64 : decode cX7_sendAlong 64 = .ok (.aload_n 0, 1) := by decide +kernel
theorem dX7_sendAlong_65 : decode cX7_sendAlong 65 = .ok (.getfield 114, 3) := by decide +kernel
theorem dX7_sendAlong_68 : decode cX7_sendAlong 68 = .ok (.iload_n 1, 1) := by decide +kernel
theorem dX7_sendAlong_69 : decode cX7_sendAlong 69 = .ok (.iastore, 1) := by decide +kernel
theorem dX7_sendAlong_70 : decode cX7_sendAlong 70 = .ok (.aload_n 0, 1) := by decide +kernel
theorem dX7_sendAlong_71 : decode cX7_sendAlong 71 = .ok (.dup, 1) := by decide +kernel
theorem dX7_sendAlong_72 : decode cX7_sendAlong 72 = .ok (.getfield 114, 3) := by decide +kernel
theorem dX7_sendAlong_75 : decode cX7_sendAlong 75 = .ok (.iconst 1, 1) := by decide +kernel
theorem dX7_sendAlong_76 : decode cX7_sendAlong 76 = .ok (.iadd, 1) := by decide +kernel
theorem dX7_sendAlong_77 : decode cX7_sendAlong 77 = .ok (.putfield 114, 3) := by decide +kernel
theorem dX7_sendAlong_80 : decode cX7_sendAlong 80 = .ok (.return_, 1) := by decide +kernel
def rm_cX11_wake : Room := { frames := 2, cells := 0, slots := 0, locals := 41 }
def G_cX11_wake_b32 (p : Program) (l : Launch) (e : Env) (s : State) (m : MethodId) (args : Array Value) (below : List Frame) (meth : Method) (c : Code) (dC : Nat → ClassId) (dI : Nat → Nat → Nat) (kA : Nat → ClassId) (ad : Nat → Nat) (res : Int32 × RS) (F : RS → Int32 → Int32 → Int32 → Option (Int32 × RS)) : Prop := ∀ (σ : RS) (x1 : Int32) (x2 : Int32) (s0 : Int32), F σ x1 x2 s0 = some res → ∀ (H : Heap) (locs : List Loc) (ls : Array Slot), va_P (dC, dI) vwCl (c_w kA ad σ) H → va_S (jw_A 57 ad) s.heap H locs → lv_has ls 4 [(0, .ref (ad 0)), (1, .int x1), (2, .int x2)] → W p l e rm_cX11_wake s m args below meth c H locs 0 0 (c_Qi below dC dI kA ad args s res) (F0 m 32 ls [.int s0])
def G_cX11_wake (p : Program) (l : Launch) (e : Env) (s : State) (m : MethodId) (args : Array Value) (below : List Frame) (meth : Method) (c : Code) (dC : Nat → ClassId) (dI : Nat → Nat → Nat) (kA : Nat → ClassId) (ad : Nat → Nat) (res : Int32 × RS) (F : RS → Int32 → Int32 → Option (Int32 × RS)) : Prop := ∀ (σ : RS) (x1 : Int32) (x2 : Int32), F σ x1 x2 = some res → ∀ (H : Heap) (locs : List Loc) (ls : Array Slot), va_P (dC, dI) vwCl (c_w kA ad σ) H → va_S (jw_A 57 ad) s.heap H locs → lv_has ls 4 [(0, .ref (ad 0)), (1, .int x1), (2, .int x2)] → W p l e rm_cX11_wake s m args below meth c H locs 0 0 (c_Qi below dC dI kA ad args s res) (F0 m 0 ls [])
def s_cX11_wake_b32 (σ : RS) (x1 : Int32) (x2 : Int32) (s0 : Int32) : Option (Int32 × RS) := kn_st (rs_A σ 4 (upd (rg_A σ 4) x1.toNatClampNeg (vp_nar .boolean x2))) 12 x1 (fun σ1 => kn_i (s_cX11_changed σ1 s0) (fun v2 σ3 => some (v2, σ3)))
set_option maxRecDepth 100000 in
set_option maxHeartbeats 4000000 in
theorem p_cX11_wake_b32 {p : Program} {l : Launch} {e : Env} {s : State} {m : MethodId} {args : Array Value} {below : List Frame} {meth : Method} {c : Code} {dC : Nat → ClassId} {dI : Nat → Nat → Nat} {kA : Nat → ClassId} {ad : Nat → Nat} (C : jxc cX11_wake (some .int) 4 RX11 p s m args meth c dC dI kA) (hap : jw_ap 57 ad) {res : Int32 × RS} : G_cX11_wake_b32 p l e s m args below meth c dC dI kA ad res (s_cX11_wake_b32) := by
  obtain ⟨hx, hb, hml, hown, hts, hr, hlocks, hK, hN⟩ := id C
  intro σ x1 x2 s0 hf H locs ls hP hS hl
  unfold s_cX11_wake_b32 at hf
  refine lv_istore_n (lv' := [(3, .int s0), (0, .ref (ad 0)), (1, .int x1), (2, .int x2)]) hx hb dX11_wake_32 rfl hl (by decide) rfl (fun ls hl => ?_)
  refine lv_aload_n hx hb dX11_wake_33 rfl (lv_at hl 1 rfl) ?_
  refine c_gX11_web hx hb hts hown hK hP (hts _ kw_410) dX11_wake_34 ?_
  refine c_gX10_awake hx hb hts hown hK hP (hts _ kw_124) dX11_wake_37 ?_
  refine lv_iload_n hx hb dX11_wake_40 rfl (lv_at hl 2 rfl) ?_
  refine lv_iload_n hx hb dX11_wake_41 rfl (lv_at hl 3 rfl) ?_
  refine ja_zst hx hb hK (c_D hap σ) hP hS 9 2 rfl rfl rfl c_sA4 hf dX11_wake_42 (fun σ1 H locs hP hS hf => ?_)
  refine lv_aload_n hx hb dX11_wake_43 rfl (lv_at hl 1 rfl) ?_
  refine lv_iload_n hx hb dX11_wake_44 rfl (lv_at hl 0 rfl) ?_
  refine jk_i hf (fun res hres => jv_run hx hb hml hown hts hK hN c_hG c_hNW hl.1 (n := 1) (As := [.int s0]) (rest := []) (c_cX11_changed l hap σ1 s0 res hres) hP (ci := 11) (q0 := 0) rfl rfl rfl kw_473 kw_470 kw_472 kw_0 kw_52 ⟨rfl, rfl⟩ (by decide +kernel) rfl ⟨Nat.le_of_ble_eq_true rfl, Nat.le_of_ble_eq_true rfl⟩ rfl (Nat.le_of_ble_eq_true rfl) dX11_wake_45) hS (fun v2 σ3 H locs hP hS hf => ?_)
  exact jr_i hx hb hr hlocks hf rfl hP hS dX11_wake_48
def s_cX11_wake (σ : RS) (x1 : Int32) (x2 : Int32) : Option (Int32 × RS) := kn_i (s_cX10_hasNode σ x1) (fun v1 σ2 => if v1 = 0 then (some ((-101), σ2)) else (kn_ld (rg_A σ2 4) 12 x1 (fun v3 => if v3 = x2 then (s_cX11_wake_b32 σ2 x1 x2 0) else (s_cX11_wake_b32 σ2 x1 x2 1))))
set_option maxRecDepth 100000 in
set_option maxHeartbeats 4000000 in
theorem p_cX11_wake {p : Program} {l : Launch} {e : Env} {s : State} {m : MethodId} {args : Array Value} {below : List Frame} {meth : Method} {c : Code} {dC : Nat → ClassId} {dI : Nat → Nat → Nat} {kA : Nat → ClassId} {ad : Nat → Nat} (C : jxc cX11_wake (some .int) 4 RX11 p s m args meth c dC dI kA) (hap : jw_ap 57 ad) {res : Int32 × RS} : G_cX11_wake p l e s m args below meth c dC dI kA ad res (s_cX11_wake) := by
  obtain ⟨hx, hb, hml, hown, hts, hr, hlocks, hK, hN⟩ := id C
  intro σ x1 x2 hf H locs ls hP hS hl
  unfold s_cX11_wake at hf
  refine lv_aload_n hx hb dX11_wake_0 rfl (lv_at hl 0 rfl) ?_
  refine c_gX11_web hx hb hts hown hK hP (hts _ kw_410) dX11_wake_1 ?_
  refine lv_iload_n hx hb dX11_wake_4 rfl (lv_at hl 1 rfl) ?_
  refine jk_i hf (fun res hres => jv_run hx hb hml hown hts hK hN c_hG c_hNW hl.1 (n := 1) (As := [.int x1]) (rest := []) (c_cX10_hasNode l hap σ x1 res hres) hP (ci := 10) (q0 := 7) rfl rfl rfl kw_489 kw_494 kw_487 kw_488 kw_54 ⟨rfl, rfl⟩ (by decide +kernel) rfl ⟨Nat.le_of_ble_eq_true rfl, Nat.le_of_ble_eq_true rfl⟩ rfl (Nat.le_of_ble_eq_true rfl) dX11_wake_5) hS (fun v1 σ2 H locs hP hS hf => ?_)
  refine jb_ne (tgt := 14) hx hb hf dX11_wake_8 (by decide) (fun hf => ?_) (fun hf => ?_)
  · refine lv_aload_n hx hb dX11_wake_14 rfl (lv_at hl 0 rfl) ?_
    refine c_gX11_web hx hb hts hown hK hP (hts _ kw_410) dX11_wake_15 ?_
    refine c_gX10_awake hx hb hts hown hK hP (hts _ kw_124) dX11_wake_18 ?_
    refine lv_iload_n hx hb dX11_wake_21 rfl (lv_at hl 1 rfl) ?_
    refine ja_zld hx hb hK hP 9 2 rfl rfl hf dX11_wake_22 (fun v3 hf => ?_)
    refine lv_iload_n hx hb dX11_wake_23 rfl (lv_at hl 2 rfl) ?_
    refine jc_ne (tgt := 31) hx hb hf dX11_wake_24 (by decide) (fun hf => ?_) (fun hf => ?_)
    · refine lv_iconst (v := 1) hx hb dX11_wake_31 (by decide) ?_
      exact (p_cX11_wake_b32 C hap) σ2 x1 x2 1 hf H locs ls hP hS (lv_sub hl [0, 1, 2] rfl)
    · refine lv_iconst (v := 0) hx hb dX11_wake_27 (by decide) ?_
      refine lv_goto (tgt := 32) hx hb dX11_wake_28 (by decide) ?_
      exact (p_cX11_wake_b32 C hap) σ2 x1 x2 0 hf H locs ls hP hS (lv_sub hl [0, 1, 2] rfl)
  · refine lv_bipush (v := (-101)) hx hb dX11_wake_11 (by decide) ?_
    exact jr_i hx hb hr hlocks hf rfl hP hS dX11_wake_13
theorem c_cX11_wake (l : Launch) {dC : Nat → ClassId} {dI : Nat → Nat → Nat} {kA : Nat → ClassId} {ad : Nat → Nat} (hap : jw_ap 57 ad) (σ : RS) (x1 : Int32) (x2 : Int32) (res : Int32 × RS) (hf : s_cX11_wake σ x1 x2 = some res) : jm_i l KW NW (dC, dI) vwCl (jtys kA) (jw_A 57 ad) (c_w kA ad) yX11_wake cX11_wake 4 .int (rm_cX11_wake) [.ref (ad 0), .int x1, .int x2] σ res := jm_i_of (by decide) (Nat.le_of_ble_eq_true rfl) (fun p e s m below meth c C hP hS ls hl => p_cX11_wake C hap σ x1 x2 hf s.heap [] ls hP hS hl)

def rm_cX11_act : Room := { frames := 2, cells := 0, slots := 0, locals := 41 }
def G_cX11_act_b19 (p : Program) (l : Launch) (e : Env) (s : State) (m : MethodId) (args : Array Value) (below : List Frame) (meth : Method) (c : Code) (dC : Nat → ClassId) (dI : Nat → Nat → Nat) (kA : Nat → ClassId) (ad : Nat → Nat) (res : Int32 × RS) (F : RS → Int32 → Int32 → Option (Int32 × RS)) : Prop := ∀ (σ : RS) (x1 : Int32) (x2 : Int32), F σ x1 x2 = some res → ∀ (H : Heap) (locs : List Loc) (ls : Array Slot), va_P (dC, dI) vwCl (c_w kA ad σ) H → va_S (jw_A 57 ad) s.heap H locs → lv_has ls 4 [(0, .ref (ad 0)), (1, .int x1), (2, .int x2)] → W p l e rm_cX11_act s m args below meth c H locs 0 0 (c_Qi below dC dI kA ad args s res) (F0 m 19 ls [])
def G_cX11_act (p : Program) (l : Launch) (e : Env) (s : State) (m : MethodId) (args : Array Value) (below : List Frame) (meth : Method) (c : Code) (dC : Nat → ClassId) (dI : Nat → Nat → Nat) (kA : Nat → ClassId) (ad : Nat → Nat) (res : Int32 × RS) (F : RS → Int32 → Int32 → Option (Int32 × RS)) : Prop := ∀ (σ : RS) (x1 : Int32) (x2 : Int32), F σ x1 x2 = some res → ∀ (H : Heap) (locs : List Loc) (ls : Array Slot), va_P (dC, dI) vwCl (c_w kA ad σ) H → va_S (jw_A 57 ad) s.heap H locs → lv_has ls 4 [(0, .ref (ad 0)), (1, .int x1), (2, .int x2)] → W p l e rm_cX11_act s m args below meth c H locs 0 0 (c_Qi below dC dI kA ad args s res) (F0 m 0 ls [])
def s_cX11_act_b19 (σ : RS) (x1 : Int32) (x2 : Int32) : Option (Int32 × RS) := if x1 < 0 then (some ((-102), σ)) else (if x1 < 7 then (kn_ld (rg_A σ 8) 7 x1 (fun v1 => kn_st (rs_A σ 8 (upd (rg_A σ 8) x1.toNatClampNeg x2)) 7 x1 (fun σ2 => kn_i (s_cX11_changed σ2 v1) (fun v3 σ4 => some (v3, σ4))))) else (some ((-102), σ)))
set_option maxRecDepth 100000 in
set_option maxHeartbeats 4000000 in
theorem p_cX11_act_b19 {p : Program} {l : Launch} {e : Env} {s : State} {m : MethodId} {args : Array Value} {below : List Frame} {meth : Method} {c : Code} {dC : Nat → ClassId} {dI : Nat → Nat → Nat} {kA : Nat → ClassId} {ad : Nat → Nat} (C : jxc cX11_act (some .int) 4 RX11 p s m args meth c dC dI kA) (hap : jw_ap 57 ad) {res : Int32 × RS} : G_cX11_act_b19 p l e s m args below meth c dC dI kA ad res (s_cX11_act_b19) := by
  obtain ⟨hx, hb, hml, hown, hts, hr, hlocks, hK, hN⟩ := id C
  intro σ x1 x2 hf H locs ls hP hS hl
  unfold s_cX11_act_b19 at hf
  refine lv_iload_n hx hb dX11_act_19 rfl (lv_at hl 1 rfl) ?_
  refine jb_lt (tgt := 29) hx hb hf dX11_act_20 (by decide) (fun hf => ?_) (fun hf => ?_)
  · refine lv_bipush (v := (-102)) hx hb dX11_act_29 (by decide) ?_
    exact jr_i hx hb hr hlocks hf rfl hP hS dX11_act_31
  · refine lv_iload_n hx hb dX11_act_23 rfl (lv_at hl 1 rfl) ?_
    refine lv_bipush (v := 7) hx hb dX11_act_24 (by decide) ?_
    refine jc_lt (tgt := 32) hx hb hf dX11_act_26 (by decide) (fun hf => ?_) (fun hf => ?_)
    · refine lv_aload_n hx hb dX11_act_32 rfl (lv_at hl 0 rfl) ?_
      refine c_gX11_program hx hb hts hown hK hP (hts _ kw_411) dX11_act_33 ?_
      refine c_gX6_acts hx hb hts hown hK hP (hts _ kw_183) dX11_act_36 ?_
      refine lv_iload_n hx hb dX11_act_39 rfl (lv_at hl 1 rfl) ?_
      refine ja_ild hx hb hK hP 15 0 rfl rfl hf dX11_act_40 (fun v1 hf => ?_)
      refine lv_istore_n (lv' := [(3, .int v1), (0, .ref (ad 0)), (1, .int x1), (2, .int x2)]) hx hb dX11_act_41 rfl hl (by decide) rfl (fun ls hl => ?_)
      refine lv_aload_n hx hb dX11_act_42 rfl (lv_at hl 1 rfl) ?_
      refine c_gX11_program hx hb hts hown hK hP (hts _ kw_411) dX11_act_43 ?_
      refine c_gX6_acts hx hb hts hown hK hP (hts _ kw_183) dX11_act_46 ?_
      refine lv_iload_n hx hb dX11_act_49 rfl (lv_at hl 2 rfl) ?_
      refine lv_iload_n hx hb dX11_act_50 rfl (lv_at hl 3 rfl) ?_
      refine ja_ist hx hb hK (c_D hap σ) hP hS 15 0 rfl rfl c_sA8 hf dX11_act_51 (fun σ2 H locs hP hS hf => ?_)
      refine lv_aload_n hx hb dX11_act_52 rfl (lv_at hl 1 rfl) ?_
      refine lv_iload_n hx hb dX11_act_53 rfl (lv_at hl 0 rfl) ?_
      refine jk_i hf (fun res hres => jv_run hx hb hml hown hts hK hN c_hG c_hNW hl.1 (n := 1) (As := [.int v1]) (rest := []) (c_cX11_changed l hap σ2 v1 res hres) hP (ci := 11) (q0 := 0) rfl rfl rfl kw_473 kw_470 kw_472 kw_0 kw_52 ⟨rfl, rfl⟩ (by decide +kernel) rfl ⟨Nat.le_of_ble_eq_true rfl, Nat.le_of_ble_eq_true rfl⟩ rfl (Nat.le_of_ble_eq_true rfl) dX11_act_54) hS (fun v3 σ4 H locs hP hS hf => ?_)
      exact jr_i hx hb hr hlocks hf rfl hP hS dX11_act_57
    · refine lv_bipush (v := (-102)) hx hb dX11_act_29 (by decide) ?_
      exact jr_i hx hb hr hlocks hf rfl hP hS dX11_act_31
def s_cX11_act (σ : RS) (x1 : Int32) (x2 : Int32) : Option (Int32 × RS) := if x2 = (-1) then (s_cX11_act_b19 σ x1 x2) else (kn_i (s_cX8_has σ x2) (fun v1 σ2 => if v1 = 0 then (some ((-101), σ2)) else (s_cX11_act_b19 σ2 x1 x2)))
set_option maxRecDepth 100000 in
set_option maxHeartbeats 4000000 in
theorem p_cX11_act {p : Program} {l : Launch} {e : Env} {s : State} {m : MethodId} {args : Array Value} {below : List Frame} {meth : Method} {c : Code} {dC : Nat → ClassId} {dI : Nat → Nat → Nat} {kA : Nat → ClassId} {ad : Nat → Nat} (C : jxc cX11_act (some .int) 4 RX11 p s m args meth c dC dI kA) (hap : jw_ap 57 ad) {res : Int32 × RS} : G_cX11_act p l e s m args below meth c dC dI kA ad res (s_cX11_act) := by
  obtain ⟨hx, hb, hml, hown, hts, hr, hlocks, hK, hN⟩ := id C
  intro σ x1 x2 hf H locs ls hP hS hl
  unfold s_cX11_act at hf
  refine lv_iload_n hx hb dX11_act_0 rfl (lv_at hl 2 rfl) ?_
  refine lv_iconst (v := (-1)) hx hb dX11_act_1 (by decide) ?_
  refine jc_eq (tgt := 19) hx hb hf dX11_act_2 (by decide) (fun hf => ?_) (fun hf => ?_)
  · exact (p_cX11_act_b19 C hap) σ x1 x2 hf H locs ls hP hS (lv_sub hl [0, 1, 2] rfl)
  · refine lv_aload_n hx hb dX11_act_5 rfl (lv_at hl 0 rfl) ?_
    refine c_gX11_terms hx hb hts hown hK hP (hts _ kw_409) dX11_act_6 ?_
    refine lv_iload_n hx hb dX11_act_9 rfl (lv_at hl 2 rfl) ?_
    refine jk_i hf (fun res hres => jv_run hx hb hml hown hts hK hN c_hG c_hNW hl.1 (n := 1) (As := [.int x2]) (rest := []) (c_cX8_has l hap σ x2 res hres) hP (ci := 8) (q0 := 1) rfl rfl rfl kw_457 kw_504 kw_455 kw_456 kw_53 ⟨rfl, rfl⟩ (by decide +kernel) rfl ⟨Nat.le_of_ble_eq_true rfl, Nat.le_of_ble_eq_true rfl⟩ rfl (Nat.le_of_ble_eq_true rfl) dX11_act_10) hS (fun v1 σ2 H locs hP hS hf => ?_)
    refine jb_ne (tgt := 19) hx hb hf dX11_act_13 (by decide) (fun hf => ?_) (fun hf => ?_)
    · exact (p_cX11_act_b19 C hap) σ2 x1 x2 hf H locs ls hP hS (lv_sub hl [0, 1, 2] rfl)
    · refine lv_bipush (v := (-101)) hx hb dX11_act_16 (by decide) ?_
      exact jr_i hx hb hr hlocks hf rfl hP hS dX11_act_18
theorem c_cX11_act (l : Launch) {dC : Nat → ClassId} {dI : Nat → Nat → Nat} {kA : Nat → ClassId} {ad : Nat → Nat} (hap : jw_ap 57 ad) (σ : RS) (x1 : Int32) (x2 : Int32) (res : Int32 × RS) (hf : s_cX11_act σ x1 x2 = some res) : jm_i l KW NW (dC, dI) vwCl (jtys kA) (jw_A 57 ad) (c_w kA ad) yX11_act cX11_act 4 .int (rm_cX11_act) [.ref (ad 0), .int x1, .int x2] σ res := jm_i_of (by decide) (Nat.le_of_ble_eq_true rfl) (fun p e s m below meth c C hP hS ls hl => p_cX11_act C hap σ x1 x2 hf s.heap [] ls hP hS hl)

def rm_cX11_fold : Room := { frames := 2, cells := 0, slots := 0, locals := 41 }
def G_cX11_fold (p : Program) (l : Launch) (e : Env) (s : State) (m : MethodId) (args : Array Value) (below : List Frame) (meth : Method) (c : Code) (dC : Nat → ClassId) (dI : Nat → Nat → Nat) (kA : Nat → ClassId) (ad : Nat → Nat) (res : Int32 × RS) (F : RS → Int32 → Option (Int32 × RS)) : Prop := ∀ (σ : RS) (x1 : Int32), F σ x1 = some res → ∀ (H : Heap) (locs : List Loc) (ls : Array Slot), va_P (dC, dI) vwCl (c_w kA ad σ) H → va_S (jw_A 57 ad) s.heap H locs → lv_has ls 3 [(0, .ref (ad 0)), (1, .int x1)] → W p l e rm_cX11_fold s m args below meth c H locs 0 0 (c_Qi below dC dI kA ad args s res) (F0 m 0 ls [])
def s_cX11_fold (σ : RS) (x1 : Int32) : Option (Int32 × RS) := if x1 < 0 then (some ((-102), σ)) else (if x1 ≤ 3 then (kn_v (rg_I σ 5) (fun v1 => kn_v (rs_I σ 5 x1) (fun σ2 => kn_i (s_cX11_changed σ2 v1) (fun v3 σ4 => some (v3, σ4))))) else (some ((-102), σ)))
set_option maxRecDepth 100000 in
set_option maxHeartbeats 4000000 in
theorem p_cX11_fold {p : Program} {l : Launch} {e : Env} {s : State} {m : MethodId} {args : Array Value} {below : List Frame} {meth : Method} {c : Code} {dC : Nat → ClassId} {dI : Nat → Nat → Nat} {kA : Nat → ClassId} {ad : Nat → Nat} (C : jxc cX11_fold (some .int) 3 RX11 p s m args meth c dC dI kA) (hap : jw_ap 57 ad) {res : Int32 × RS} : G_cX11_fold p l e s m args below meth c dC dI kA ad res (s_cX11_fold) := by
  obtain ⟨hx, hb, hml, hown, hts, hr, hlocks, hK, hN⟩ := id C
  intro σ x1 hf H locs ls hP hS hl
  unfold s_cX11_fold at hf
  refine lv_iload_n hx hb dX11_fold_0 rfl (lv_at hl 1 rfl) ?_
  refine jb_lt (tgt := 9) hx hb hf dX11_fold_1 (by decide) (fun hf => ?_) (fun hf => ?_)
  · refine lv_bipush (v := (-102)) hx hb dX11_fold_9 (by decide) ?_
    exact jr_i hx hb hr hlocks hf rfl hP hS dX11_fold_11
  · refine lv_iload_n hx hb dX11_fold_4 rfl (lv_at hl 1 rfl) ?_
    refine lv_iconst (v := 3) hx hb dX11_fold_5 (by decide) ?_
    refine jc_le (tgt := 12) hx hb hf dX11_fold_6 (by decide) (fun hf => ?_) (fun hf => ?_)
    · refine lv_aload_n hx hb dX11_fold_12 rfl (lv_at hl 0 rfl) ?_
      refine c_gX11_program hx hb hts hown hK hP (hts _ kw_411) dX11_fold_13 ?_
      refine c_gX6_foldSort hx hb hts hown hK hP (hts _ kw_184) dX11_fold_16 ?_
      refine jn_i hf (fun v1 hf => ?_)
      refine lv_istore_n (lv' := [(2, .int v1), (0, .ref (ad 0)), (1, .int x1)]) hx hb dX11_fold_19 rfl hl (by decide) rfl (fun ls hl => ?_)
      refine lv_aload_n hx hb dX11_fold_20 rfl (lv_at hl 1 rfl) ?_
      refine c_gX11_program hx hb hts hown hK hP (hts _ kw_411) dX11_fold_21 ?_
      refine lv_iload_n hx hb dX11_fold_24 rfl (lv_at hl 2 rfl) ?_
      refine c_pX6_foldSort hx hb hts hown hK hap hP hS hf (hts _ kw_184) dX11_fold_25 (fun σ2 H locs hP hS hf => ?_)
      refine lv_aload_n hx hb dX11_fold_28 rfl (lv_at hl 1 rfl) ?_
      refine lv_iload_n hx hb dX11_fold_29 rfl (lv_at hl 0 rfl) ?_
      refine jk_i hf (fun res hres => jv_run hx hb hml hown hts hK hN c_hG c_hNW hl.1 (n := 1) (As := [.int v1]) (rest := []) (c_cX11_changed l hap σ2 v1 res hres) hP (ci := 11) (q0 := 0) rfl rfl rfl kw_473 kw_470 kw_472 kw_0 kw_52 ⟨rfl, rfl⟩ (by decide +kernel) rfl ⟨Nat.le_of_ble_eq_true rfl, Nat.le_of_ble_eq_true rfl⟩ rfl (Nat.le_of_ble_eq_true rfl) dX11_fold_30) hS (fun v3 σ4 H locs hP hS hf => ?_)
      exact jr_i hx hb hr hlocks hf rfl hP hS dX11_fold_33
    · refine lv_bipush (v := (-102)) hx hb dX11_fold_9 (by decide) ?_
      exact jr_i hx hb hr hlocks hf rfl hP hS dX11_fold_11
theorem c_cX11_fold (l : Launch) {dC : Nat → ClassId} {dI : Nat → Nat → Nat} {kA : Nat → ClassId} {ad : Nat → Nat} (hap : jw_ap 57 ad) (σ : RS) (x1 : Int32) (res : Int32 × RS) (hf : s_cX11_fold σ x1 = some res) : jm_i l KW NW (dC, dI) vwCl (jtys kA) (jw_A 57 ad) (c_w kA ad) yX11_fold cX11_fold 3 .int (rm_cX11_fold) [.ref (ad 0), .int x1] σ res := jm_i_of (by decide) (Nat.le_of_ble_eq_true rfl) (fun p e s m below meth c C hP hS ls hl => p_cX11_fold C hap σ x1 hf s.heap [] ls hP hS hl)

def rm_cX11_ask : Room := { frames := 43, cells := 0, slots := 0, locals := 1243 }
def G_cX11_ask_b27 (p : Program) (l : Launch) (e : Env) (s : State) (m : MethodId) (args : Array Value) (below : List Frame) (meth : Method) (c : Code) (dC : Nat → ClassId) (dI : Nat → Nat → Nat) (kA : Nat → ClassId) (ad : Nat → Nat) (res : Int64 × RS) (F : RS → Option (Int64 × RS)) : Prop := ∀ (σ : RS), F σ = some res → ∀ (H : Heap) (locs : List Loc) (ls : Array Slot), va_P (dC, dI) vwCl (c_w kA ad σ) H → va_S (jw_A 57 ad) s.heap H locs → lv_has ls 6 [] → W p l e rm_cX11_ask s m args below meth c H locs 0 0 (c_Ql below dC dI kA ad args s res) (F0 m 27 ls [])
def G_cX11_ask_b51 (p : Program) (l : Launch) (e : Env) (s : State) (m : MethodId) (args : Array Value) (below : List Frame) (meth : Method) (c : Code) (dC : Nat → ClassId) (dI : Nat → Nat → Nat) (kA : Nat → ClassId) (ad : Nat → Nat) (res : Int64 × RS) (F : RS → Int32 → Int32 → Int32 → Option (Int64 × RS)) : Prop := ∀ (σ : RS) (x1 : Int32) (x2 : Int32) (x3 : Int32), F σ x1 x2 x3 = some res → ∀ (H : Heap) (locs : List Loc) (ls : Array Slot), va_P (dC, dI) vwCl (c_w kA ad σ) H → va_S (jw_A 57 ad) s.heap H locs → lv_has ls 6 [(0, .ref (ad 0)), (1, .int x1), (2, .int x2), (3, .int x3)] → W p l e rm_cX11_ask s m args below meth c H locs 0 0 (c_Ql below dC dI kA ad args s res) (F0 m 51 ls [])
def G_cX11_ask (p : Program) (l : Launch) (e : Env) (s : State) (m : MethodId) (args : Array Value) (below : List Frame) (meth : Method) (c : Code) (dC : Nat → ClassId) (dI : Nat → Nat → Nat) (kA : Nat → ClassId) (ad : Nat → Nat) (res : Int64 × RS) (F : RS → Int32 → Int32 → Int32 → Option (Int64 × RS)) : Prop := ∀ (σ : RS) (x1 : Int32) (x2 : Int32) (x3 : Int32), F σ x1 x2 x3 = some res → ∀ (H : Heap) (locs : List Loc) (ls : Array Slot), va_P (dC, dI) vwCl (c_w kA ad σ) H → va_S (jw_A 57 ad) s.heap H locs → lv_has ls 6 [(0, .ref (ad 0)), (1, .int x1), (2, .int x2), (3, .int x3)] → W p l e rm_cX11_ask s m args below meth c H locs 0 0 (c_Ql below dC dI kA ad args s res) (F0 m 0 ls [])
def s_cX11_ask_b27 (σ : RS) : Option (Int64 × RS) := some ((-101), σ)
set_option maxRecDepth 100000 in
set_option maxHeartbeats 4000000 in
theorem p_cX11_ask_b27 {p : Program} {l : Launch} {e : Env} {s : State} {m : MethodId} {args : Array Value} {below : List Frame} {meth : Method} {c : Code} {dC : Nat → ClassId} {dI : Nat → Nat → Nat} {kA : Nat → ClassId} {ad : Nat → Nat} (C : jxc cX11_ask (some .long) 6 RX11 p s m args meth c dC dI kA) (hap : jw_ap 57 ad) {res : Int64 × RS} : G_cX11_ask_b27 p l e s m args below meth c dC dI kA ad res (s_cX11_ask_b27) := by
  obtain ⟨hx, hb, hml, hown, hts, hr, hlocks, hK, hN⟩ := id C
  intro σ hf H locs ls hP hS hl
  unfold s_cX11_ask_b27 at hf
  refine lv_ldc2 (v := (-101)) hx hb hown (hts _ kw_708) dX11_ask_27 ?_
  exact jr_l hx hb hr hlocks hf hP hS dX11_ask_30
def s_cX11_ask_b51 (σ : RS) (x1 : Int32) (x2 : Int32) (x3 : Int32) : Option (Int64 × RS) := kn_u (s_cX1_begin σ) (fun σ2 => kn_l (r_cX1_valueOf 41 σ2 x1 x2 x3 0) (fun v3 σ4 => kn_v (rs_I σ4 0 (rg_I σ4 16)) (fun σ5 => some (v3, σ5))))
set_option maxRecDepth 100000 in
set_option maxHeartbeats 4000000 in
theorem p_cX11_ask_b51 {p : Program} {l : Launch} {e : Env} {s : State} {m : MethodId} {args : Array Value} {below : List Frame} {meth : Method} {c : Code} {dC : Nat → ClassId} {dI : Nat → Nat → Nat} {kA : Nat → ClassId} {ad : Nat → Nat} (C : jxc cX11_ask (some .long) 6 RX11 p s m args meth c dC dI kA) (hap : jw_ap 57 ad) {res : Int64 × RS} : G_cX11_ask_b51 p l e s m args below meth c dC dI kA ad res (s_cX11_ask_b51) := by
  obtain ⟨hx, hb, hml, hown, hts, hr, hlocks, hK, hN⟩ := id C
  intro σ x1 x2 x3 hf H locs ls hP hS hl
  unfold s_cX11_ask_b51 at hf
  refine lv_aload_n hx hb dX11_ask_51 rfl (lv_at hl 0 rfl) ?_
  refine c_gX11_asker hx hb hts hown hK hP (hts _ kw_415) dX11_ask_52 ?_
  refine jk_u hf (fun res hres => jv_run hx hb hml hown hts hK hN c_hG c_hNW hl.1 (n := 0) (As := []) (rest := []) (c_cX1_begin l hap σ res hres) hP (ci := 1) (q0 := 22) rfl rfl rfl kw_535 kw_713 kw_533 kw_534 kw_60 ⟨rfl, rfl⟩ (by decide +kernel) rfl ⟨Nat.le_of_ble_eq_true rfl, Nat.le_of_ble_eq_true rfl⟩ rfl (Nat.le_of_ble_eq_true rfl) dX11_ask_55) hS (fun σ2 H locs hP hS hf => ?_)
  refine lv_aload_n hx hb dX11_ask_58 rfl (lv_at hl 0 rfl) ?_
  refine c_gX11_asker hx hb hts hown hK hP (hts _ kw_415) dX11_ask_59 ?_
  refine lv_iload_n hx hb dX11_ask_62 rfl (lv_at hl 1 rfl) ?_
  refine lv_iload_n hx hb dX11_ask_63 rfl (lv_at hl 2 rfl) ?_
  refine lv_iload_n hx hb dX11_ask_64 rfl (lv_at hl 3 rfl) ?_
  refine lv_iconst (v := 0) hx hb dX11_ask_65 (by decide) ?_
  refine jk_l hf (fun res hres => jv_runN hx hb hml hown hts hK hN c_hG c_hNW hl.1 (n := 4) (As := [.int x1, .int x2, .int x3, .int 0]) (rest := []) (c_cX1_valueOf l hap 41 σ2 x1 x2 x3 0 res hres) hP (ci := 1) (q0 := 22) rfl rfl rfl kw_559 nw_714 kw_558 kw_4 kw_60 ⟨rfl, rfl⟩ (by decide +kernel) rfl ⟨Nat.le_of_ble_eq_true rfl, Nat.le_of_ble_eq_true rfl⟩ rfl (Nat.le_of_ble_eq_true rfl) dX11_ask_66) hS (fun v3 σ4 H locs hP hS hf => ?_)
  refine lv_lstore (lv' := [(4, .long v3), (0, .ref (ad 0)), (1, .int x1), (2, .int x2), (3, .int x3)]) hx hb dX11_ask_69 hl (by decide) rfl (fun ls hl => ?_)
  refine lv_aload_n hx hb dX11_ask_71 rfl (lv_at hl 1 rfl) ?_
  refine lv_aload_n hx hb dX11_ask_72 rfl (lv_at hl 1 rfl) ?_
  refine c_gX11_asker hx hb hts hown hK hP (hts _ kw_415) dX11_ask_73 ?_
  refine c_gX1_fault hx hb hts hown hK hP (hts _ kw_282) dX11_ask_76 ?_
  refine c_pX11_whyAsked hx hb hts hown hK hap hP hS hf (hts _ kw_419) dX11_ask_79 (fun σ5 H locs hP hS hf => ?_)
  refine lv_lload hx hb dX11_ask_82 (lv_at hl 0 rfl) ?_
  exact jr_l hx hb hr hlocks hf hP hS dX11_ask_84
def s_cX11_ask (σ : RS) (x1 : Int32) (x2 : Int32) (x3 : Int32) : Option (Int64 × RS) := kn_v (rs_I σ 0 0) (fun σ1 => kn_i (s_cX8_has σ1 x1) (fun v2 σ3 => if v2 = 0 then (s_cX11_ask_b27 σ3) else (kn_i (s_cX10_hasNode σ3 x2) (fun v4 σ5 => if v4 = 0 then (s_cX11_ask_b27 σ5) else (if x3 = (-1) then (s_cX11_ask_b51 σ5 x1 x2 x3) else (kn_i (s_cX10_hasArc σ5 x3) (fun v6 σ7 => if v6 = 0 then (some ((-101), σ7)) else (s_cX11_ask_b51 σ7 x1 x2 x3))))))))
set_option maxRecDepth 100000 in
set_option maxHeartbeats 4000000 in
theorem p_cX11_ask {p : Program} {l : Launch} {e : Env} {s : State} {m : MethodId} {args : Array Value} {below : List Frame} {meth : Method} {c : Code} {dC : Nat → ClassId} {dI : Nat → Nat → Nat} {kA : Nat → ClassId} {ad : Nat → Nat} (C : jxc cX11_ask (some .long) 6 RX11 p s m args meth c dC dI kA) (hap : jw_ap 57 ad) {res : Int64 × RS} : G_cX11_ask p l e s m args below meth c dC dI kA ad res (s_cX11_ask) := by
  obtain ⟨hx, hb, hml, hown, hts, hr, hlocks, hK, hN⟩ := id C
  intro σ x1 x2 x3 hf H locs ls hP hS hl
  unfold s_cX11_ask at hf
  refine lv_aload_n hx hb dX11_ask_0 rfl (lv_at hl 0 rfl) ?_
  refine lv_iconst (v := 0) hx hb dX11_ask_1 (by decide) ?_
  refine c_pX11_whyAsked hx hb hts hown hK hap hP hS hf (hts _ kw_419) dX11_ask_2 (fun σ1 H locs hP hS hf => ?_)
  refine lv_aload_n hx hb dX11_ask_5 rfl (lv_at hl 0 rfl) ?_
  refine c_gX11_terms hx hb hts hown hK hP (hts _ kw_409) dX11_ask_6 ?_
  refine lv_iload_n hx hb dX11_ask_9 rfl (lv_at hl 1 rfl) ?_
  refine jk_i hf (fun res hres => jv_run hx hb hml hown hts hK hN c_hG c_hNW hl.1 (n := 1) (As := [.int x1]) (rest := []) (c_cX8_has l hap σ1 x1 res hres) hP (ci := 8) (q0 := 1) rfl rfl rfl kw_457 kw_504 kw_455 kw_456 kw_53 ⟨rfl, rfl⟩ (by decide +kernel) rfl ⟨Nat.le_of_ble_eq_true rfl, Nat.le_of_ble_eq_true rfl⟩ rfl (Nat.le_of_ble_eq_true rfl) dX11_ask_10) hS (fun v2 σ3 H locs hP hS hf => ?_)
  refine jb_eq (tgt := 27) hx hb hf dX11_ask_13 (by decide) (fun hf => ?_) (fun hf => ?_)
  · exact (p_cX11_ask_b27 C hap) σ3 hf H locs ls hP hS (lv_sub hl [] rfl)
  · refine lv_aload_n hx hb dX11_ask_16 rfl (lv_at hl 0 rfl) ?_
    refine c_gX11_web hx hb hts hown hK hP (hts _ kw_410) dX11_ask_17 ?_
    refine lv_iload_n hx hb dX11_ask_20 rfl (lv_at hl 2 rfl) ?_
    refine jk_i hf (fun res hres => jv_run hx hb hml hown hts hK hN c_hG c_hNW hl.1 (n := 1) (As := [.int x2]) (rest := []) (c_cX10_hasNode l hap σ3 x2 res hres) hP (ci := 10) (q0 := 7) rfl rfl rfl kw_489 kw_494 kw_487 kw_488 kw_54 ⟨rfl, rfl⟩ (by decide +kernel) rfl ⟨Nat.le_of_ble_eq_true rfl, Nat.le_of_ble_eq_true rfl⟩ rfl (Nat.le_of_ble_eq_true rfl) dX11_ask_21) hS (fun v4 σ5 H locs hP hS hf => ?_)
    refine jb_ne (tgt := 31) hx hb hf dX11_ask_24 (by decide) (fun hf => ?_) (fun hf => ?_)
    · refine lv_iload_n hx hb dX11_ask_31 rfl (lv_at hl 3 rfl) ?_
      refine lv_iconst (v := (-1)) hx hb dX11_ask_32 (by decide) ?_
      refine jc_eq (tgt := 51) hx hb hf dX11_ask_33 (by decide) (fun hf => ?_) (fun hf => ?_)
      · exact (p_cX11_ask_b51 C hap) σ5 x1 x2 x3 hf H locs ls hP hS (lv_sub hl [0, 1, 2, 3] rfl)
      · refine lv_aload_n hx hb dX11_ask_36 rfl (lv_at hl 0 rfl) ?_
        refine c_gX11_web hx hb hts hown hK hP (hts _ kw_410) dX11_ask_37 ?_
        refine lv_iload_n hx hb dX11_ask_40 rfl (lv_at hl 3 rfl) ?_
        refine jk_i hf (fun res hres => jv_run hx hb hml hown hts hK hN c_hG c_hNW hl.1 (n := 1) (As := [.int x3]) (rest := []) (c_cX10_hasArc l hap σ5 x3 res hres) hP (ci := 10) (q0 := 7) rfl rfl rfl kw_712 kw_709 kw_710 kw_711 kw_54 ⟨rfl, rfl⟩ (by decide +kernel) rfl ⟨Nat.le_of_ble_eq_true rfl, Nat.le_of_ble_eq_true rfl⟩ rfl (Nat.le_of_ble_eq_true rfl) dX11_ask_41) hS (fun v6 σ7 H locs hP hS hf => ?_)
        refine jb_ne (tgt := 51) hx hb hf dX11_ask_44 (by decide) (fun hf => ?_) (fun hf => ?_)
        · exact (p_cX11_ask_b51 C hap) σ7 x1 x2 x3 hf H locs ls hP hS (lv_sub hl [0, 1, 2, 3] rfl)
        · refine lv_ldc2 (v := (-101)) hx hb hown (hts _ kw_708) dX11_ask_47 ?_
          exact jr_l hx hb hr hlocks hf hP hS dX11_ask_50
    · exact (p_cX11_ask_b27 C hap) σ5 hf H locs ls hP hS (lv_sub hl [] rfl)
theorem c_cX11_ask (l : Launch) {dC : Nat → ClassId} {dI : Nat → Nat → Nat} {kA : Nat → ClassId} {ad : Nat → Nat} (hap : jw_ap 57 ad) (σ : RS) (x1 : Int32) (x2 : Int32) (x3 : Int32) (res : Int64 × RS) (hf : s_cX11_ask σ x1 x2 x3 = some res) : jm_l l KW NW (dC, dI) vwCl (jtys kA) (jw_A 57 ad) (c_w kA ad) yX11_ask cX11_ask 6 (rm_cX11_ask) [.ref (ad 0), .int x1, .int x2, .int x3] σ res := jm_l_of (by decide) (Nat.le_of_ble_eq_true rfl) (fun p e s m below meth c C hP hS ls hl => p_cX11_ask C hap σ x1 x2 x3 hf s.heap [] ls hP hS hl)

def rm_cX11_state : Room := { frames := 1, cells := 0, slots := 0, locals := 21 }
def G_cX11_state (p : Program) (l : Launch) (e : Env) (s : State) (m : MethodId) (args : Array Value) (below : List Frame) (meth : Method) (c : Code) (dC : Nat → ClassId) (dI : Nat → Nat → Nat) (kA : Nat → ClassId) (ad : Nat → Nat) (res : Int64 × RS) (F : RS → Int32 → Int32 → Option (Int64 × RS)) : Prop := ∀ (σ : RS) (x1 : Int32) (x2 : Int32), F σ x1 x2 = some res → ∀ (H : Heap) (locs : List Loc) (ls : Array Slot), va_P (dC, dI) vwCl (c_w kA ad σ) H → va_S (jw_A 57 ad) s.heap H locs → lv_has ls 3 [(0, .ref (ad 0)), (1, .int x1), (2, .int x2)] → W p l e rm_cX11_state s m args below meth c H locs 0 0 (c_Ql below dC dI kA ad args s res) (F0 m 0 ls [])
def s_cX11_state (σ : RS) (x1 : Int32) (x2 : Int32) : Option (Int64 × RS) := kn_i (s_cX10_hasNode σ x1) (fun v1 σ2 => if v1 = 0 then (some ((-101), σ2)) else (kn_i (s_cX11_isState σ2 x2.toInt64) (fun v3 σ4 => if v3 = 0 then (some ((-102), σ4)) else (kn_ld (rg_B σ4 1) 36 ((x1 * 3) + x2) (fun v5 => some (v5, σ4))))))
set_option maxRecDepth 100000 in
set_option maxHeartbeats 4000000 in
theorem p_cX11_state {p : Program} {l : Launch} {e : Env} {s : State} {m : MethodId} {args : Array Value} {below : List Frame} {meth : Method} {c : Code} {dC : Nat → ClassId} {dI : Nat → Nat → Nat} {kA : Nat → ClassId} {ad : Nat → Nat} (C : jxc cX11_state (some .long) 3 RX11 p s m args meth c dC dI kA) (hap : jw_ap 57 ad) {res : Int64 × RS} : G_cX11_state p l e s m args below meth c dC dI kA ad res (s_cX11_state) := by
  obtain ⟨hx, hb, hml, hown, hts, hr, hlocks, hK, hN⟩ := id C
  intro σ x1 x2 hf H locs ls hP hS hl
  unfold s_cX11_state at hf
  refine lv_aload_n hx hb dX11_state_0 rfl (lv_at hl 0 rfl) ?_
  refine c_gX11_web hx hb hts hown hK hP (hts _ kw_410) dX11_state_1 ?_
  refine lv_iload_n hx hb dX11_state_4 rfl (lv_at hl 1 rfl) ?_
  refine jk_i hf (fun res hres => jv_run hx hb hml hown hts hK hN c_hG c_hNW hl.1 (n := 1) (As := [.int x1]) (rest := []) (c_cX10_hasNode l hap σ x1 res hres) hP (ci := 10) (q0 := 7) rfl rfl rfl kw_489 kw_494 kw_487 kw_488 kw_54 ⟨rfl, rfl⟩ (by decide +kernel) rfl ⟨Nat.le_of_ble_eq_true rfl, Nat.le_of_ble_eq_true rfl⟩ rfl (Nat.le_of_ble_eq_true rfl) dX11_state_5) hS (fun v1 σ2 H locs hP hS hf => ?_)
  refine jb_ne (tgt := 15) hx hb hf dX11_state_8 (by decide) (fun hf => ?_) (fun hf => ?_)
  · refine lv_iload_n hx hb dX11_state_15 rfl (lv_at hl 2 rfl) ?_
    refine lv_i2l (v := x2.toInt64) hx hb dX11_state_16 rfl ?_
    refine jk_i hf (fun res hres => js_run hx hb hml hown hts hK hN c_hG c_hNW hl.1 (n := 1) (As := [.long x2.toInt64]) (rest := []) (c_cX11_isState l hap σ2 x2.toInt64 res hres) hP kw_460 kw_495 kw_459 kw_52 ⟨rfl, rfl⟩ (by decide +kernel) rfl ⟨Nat.le_of_ble_eq_true rfl, Nat.le_of_ble_eq_true rfl⟩ rfl (Nat.le_of_ble_eq_true rfl) dX11_state_17) hS (fun v3 σ4 H locs hP hS hf => ?_)
    refine jb_eq (tgt := 39) hx hb hf dX11_state_20 (by decide) (fun hf => ?_) (fun hf => ?_)
    · refine lv_ldc2 (v := (-102)) hx hb hown (hts _ kw_723) dX11_state_39 ?_
      exact jr_l hx hb hr hlocks hf hP hS dX11_state_42
    · refine lv_aload_n hx hb dX11_state_23 rfl (lv_at hl 0 rfl) ?_
      refine c_gX11_web hx hb hts hown hK hP (hts _ kw_410) dX11_state_24 ?_
      refine c_gX10_states hx hb hts hown hK hP (hts _ kw_116) dX11_state_27 ?_
      refine lv_iload_n hx hb dX11_state_30 rfl (lv_at hl 1 rfl) ?_
      refine lv_iconst (v := 3) hx hb dX11_state_31 (by decide) ?_
      refine lv_imul hx hb dX11_state_32 ?_
      refine lv_iload_n hx hb dX11_state_33 rfl (lv_at hl 2 rfl) ?_
      refine lv_iadd hx hb dX11_state_34 ?_
      refine ja_lld hx hb hK hP 8 1 rfl rfl hf dX11_state_35 (fun v5 hf => ?_)
      refine lv_goto (tgt := 42) hx hb dX11_state_36 (by decide) ?_
      exact jr_l hx hb hr hlocks hf hP hS dX11_state_42
  · refine lv_ldc2 (v := (-101)) hx hb hown (hts _ kw_708) dX11_state_11 ?_
    exact jr_l hx hb hr hlocks hf hP hS dX11_state_14
theorem c_cX11_state (l : Launch) {dC : Nat → ClassId} {dI : Nat → Nat → Nat} {kA : Nat → ClassId} {ad : Nat → Nat} (hap : jw_ap 57 ad) (σ : RS) (x1 : Int32) (x2 : Int32) (res : Int64 × RS) (hf : s_cX11_state σ x1 x2 = some res) : jm_l l KW NW (dC, dI) vwCl (jtys kA) (jw_A 57 ad) (c_w kA ad) yX11_state cX11_state 3 (rm_cX11_state) [.ref (ad 0), .int x1, .int x2] σ res := jm_l_of (by decide) (Nat.le_of_ble_eq_true rfl) (fun p e s m below meth c C hP hS ls hl => p_cX11_state C hap σ x1 x2 hf s.heap [] ls hP hS hl)

def rm_cX0_comesTo : Room := { frames := 43, cells := 0, slots := 0, locals := 1243 }
def G_cX0_comesTo (p : Program) (l : Launch) (e : Env) (s : State) (m : MethodId) (args : Array Value) (below : List Frame) (meth : Method) (c : Code) (dC : Nat → ClassId) (dI : Nat → Nat → Nat) (kA : Nat → ClassId) (ad : Nat → Nat) (res : Int64 × RS) (F : RS → Int32 → Int32 → Int32 → Int64 → Option (Int64 × RS)) : Prop := ∀ (σ : RS) (x1 : Int32) (x2 : Int32) (x3 : Int32) (x4 : Int64), F σ x1 x2 x3 x4 = some res → ∀ (H : Heap) (locs : List Loc) (ls : Array Slot), va_P (dC, dI) vwCl (c_w kA ad σ) H → va_S (jw_A 57 ad) s.heap H locs → lv_has ls 9 [(0, .ref (ad 23)), (1, .int x1), (2, .int x2), (3, .int x3), (4, .long x4)] → W p l e rm_cX0_comesTo s m args below meth c H locs 0 0 (c_Ql below dC dI kA ad args s res) (F0 m 0 ls [])
def s_cX0_comesTo (σ : RS) (x1 : Int32) (x2 : Int32) (x3 : Int32) (x4 : Int64) : Option (Int64 × RS) := kn_ld (rg_A σ 8) 7 x1 (fun v1 => if v1 = (-1) then (some (x4, σ)) else (kn_l (r_cX1_valueOf 41 σ v1 x2 x3 0) (fun v2 σ3 => if (rg_I σ3 16) = 0 then (some (v2, σ3)) else (kn_u (s_cX2_keep σ3 (rg_I σ3 16) x1 x2 x3 ((rg_I σ3 4) + 1)) (fun σ5 => some (v2, σ5))))))
set_option maxRecDepth 100000 in
set_option maxHeartbeats 4000000 in
theorem p_cX0_comesTo {p : Program} {l : Launch} {e : Env} {s : State} {m : MethodId} {args : Array Value} {below : List Frame} {meth : Method} {c : Code} {dC : Nat → ClassId} {dI : Nat → Nat → Nat} {kA : Nat → ClassId} {ad : Nat → Nat} (C : jxc cX0_comesTo (some .long) 9 RX0 p s m args meth c dC dI kA) (hap : jw_ap 57 ad) {res : Int64 × RS} : G_cX0_comesTo p l e s m args below meth c dC dI kA ad res (s_cX0_comesTo) := by
  obtain ⟨hx, hb, hml, hown, hts, hr, hlocks, hK, hN⟩ := id C
  intro σ x1 x2 x3 x4 hf H locs ls hP hS hl
  unfold s_cX0_comesTo at hf
  refine lv_aload_n hx hb dX0_comesTo_0 rfl (lv_at hl 0 rfl) ?_
  refine c_gX0_program hx hb hts hown hK hP (hts _ kw_309) dX0_comesTo_1 ?_
  refine c_gX6_acts hx hb hts hown hK hP (hts _ kw_182) dX0_comesTo_4 ?_
  refine lv_iload_n hx hb dX0_comesTo_7 rfl (lv_at hl 1 rfl) ?_
  refine ja_ild hx hb hK hP 15 0 rfl rfl hf dX0_comesTo_8 (fun v1 hf => ?_)
  refine lv_istore (lv' := [(6, .int v1), (0, .ref (ad 23)), (1, .int x1), (2, .int x2), (3, .int x3), (4, .long x4)]) hx hb dX0_comesTo_9 hl (by decide) rfl (fun ls hl => ?_)
  refine lv_iload hx hb dX0_comesTo_11 (lv_at hl 0 rfl) ?_
  refine lv_iconst (v := (-1)) hx hb dX0_comesTo_13 (by decide) ?_
  refine jc_ne (tgt := 20) hx hb hf dX0_comesTo_14 (by decide) (fun hf => ?_) (fun hf => ?_)
  · refine lv_aload_n hx hb dX0_comesTo_20 rfl (lv_at hl 1 rfl) ?_
    refine c_gX0_asker hx hb hts hown hK hP (hts _ kw_311) dX0_comesTo_21 ?_
    refine lv_iload hx hb dX0_comesTo_24 (lv_at hl 0 rfl) ?_
    refine lv_iload_n hx hb dX0_comesTo_26 rfl (lv_at hl 3 rfl) ?_
    refine lv_iload_n hx hb dX0_comesTo_27 rfl (lv_at hl 4 rfl) ?_
    refine lv_iconst (v := 0) hx hb dX0_comesTo_28 (by decide) ?_
    refine jk_l hf (fun res hres => jv_runN hx hb hml hown hts hK hN c_hG c_hNW hl.1 (n := 4) (As := [.int v1, .int x2, .int x3, .int 0]) (rest := []) (c_cX1_valueOf l hap 41 σ v1 x2 x3 0 res hres) hP (ci := 1) (q0 := 22) rfl rfl rfl kw_559 nw_556 kw_558 kw_4 kw_60 ⟨rfl, rfl⟩ (by decide +kernel) rfl ⟨Nat.le_of_ble_eq_true rfl, Nat.le_of_ble_eq_true rfl⟩ rfl (Nat.le_of_ble_eq_true rfl) dX0_comesTo_29) hS (fun v2 σ3 H locs hP hS hf => ?_)
    refine lv_lstore (lv' := [(7, .long v2), (6, .int v1), (0, .ref (ad 23)), (1, .int x1), (2, .int x2), (3, .int x3), (4, .long x4)]) hx hb dX0_comesTo_32 hl (by decide) rfl (fun ls hl => ?_)
    refine lv_aload_n hx hb dX0_comesTo_34 rfl (lv_at hl 2 rfl) ?_
    refine c_gX0_asker hx hb hts hown hK hP (hts _ kw_311) dX0_comesTo_35 ?_
    refine c_gX1_fault hx hb hts hown hK hP (hts _ kw_281) dX0_comesTo_38 ?_
    refine jb_eq (tgt := 70) hx hb hf dX0_comesTo_41 (by decide) (fun hf => ?_) (fun hf => ?_)
    · refine lv_lload hx hb dX0_comesTo_70 (lv_at hl 0 rfl) ?_
      exact jr_l hx hb hr hlocks hf hP hS dX0_comesTo_72
    · refine lv_aload_n hx hb dX0_comesTo_44 rfl (lv_at hl 2 rfl) ?_
      refine c_gX0_failure hx hb hts hown hK hP (hts _ kw_314) dX0_comesTo_45 ?_
      refine lv_aload_n hx hb dX0_comesTo_48 rfl (lv_at hl 2 rfl) ?_
      refine c_gX0_asker hx hb hts hown hK hP (hts _ kw_311) dX0_comesTo_49 ?_
      refine c_gX1_fault hx hb hts hown hK hP (hts _ kw_281) dX0_comesTo_52 ?_
      refine lv_iload_n hx hb dX0_comesTo_55 rfl (lv_at hl 3 rfl) ?_
      refine lv_iload_n hx hb dX0_comesTo_56 rfl (lv_at hl 4 rfl) ?_
      refine lv_iload_n hx hb dX0_comesTo_57 rfl (lv_at hl 5 rfl) ?_
      refine lv_aload_n hx hb dX0_comesTo_58 rfl (lv_at hl 2 rfl) ?_
      refine c_gX0_web hx hb hts hown hK hP (hts _ kw_306) dX0_comesTo_59 ?_
      refine c_gX10_rounds hx hb hts hown hK hP (hts _ kw_144) dX0_comesTo_62 ?_
      refine lv_iconst (v := 1) hx hb dX0_comesTo_65 (by decide) ?_
      refine lv_iadd hx hb dX0_comesTo_66 ?_
      refine jk_u hf (fun res hres => jv_run hx hb hml hown hts hK hN c_hG c_hNW hl.1 (n := 5) (As := [.int (rg_I σ3 16), .int x1, .int x2, .int x3, .int ((rg_I σ3 4) + 1)]) (rest := []) (c_cX2_keep l hap σ3 (rg_I σ3 16) x1 x2 x3 ((rg_I σ3 4) + 1) res hres) hP (ci := 2) (q0 := 16) rfl rfl rfl kw_580 kw_577 kw_578 kw_579 kw_56 ⟨rfl, rfl⟩ (by decide +kernel) rfl ⟨Nat.le_of_ble_eq_true rfl, Nat.le_of_ble_eq_true rfl⟩ rfl (Nat.le_of_ble_eq_true rfl) dX0_comesTo_67) hS (fun σ5 H locs hP hS hf => ?_)
      refine lv_lload hx hb dX0_comesTo_70 (lv_at hl 0 rfl) ?_
      exact jr_l hx hb hr hlocks hf hP hS dX0_comesTo_72
  · refine lv_lload hx hb dX0_comesTo_17 (lv_at hl 5 rfl) ?_
    exact jr_l hx hb hr hlocks hf hP hS dX0_comesTo_19
theorem c_cX0_comesTo (l : Launch) {dC : Nat → ClassId} {dI : Nat → Nat → Nat} {kA : Nat → ClassId} {ad : Nat → Nat} (hap : jw_ap 57 ad) (σ : RS) (x1 : Int32) (x2 : Int32) (x3 : Int32) (x4 : Int64) (res : Int64 × RS) (hf : s_cX0_comesTo σ x1 x2 x3 x4 = some res) : jm_l l KW NW (dC, dI) vwCl (jtys kA) (jw_A 57 ad) (c_w kA ad) yX0_comesTo cX0_comesTo 9 (rm_cX0_comesTo) [.ref (ad 23), .int x1, .int x2, .int x3, .long x4] σ res := jm_l_of (by decide) (Nat.le_of_ble_eq_true rfl) (fun p e s m below meth c C hP hS ls hl => p_cX0_comesTo C hap σ x1 x2 x3 x4 hf s.heap [] ls hP hS hl)

def rm_cX3_sendAlong : Room := { frames := 44, cells := 0, slots := 0, locals := 1271 }
def G_cX3_sendAlong (p : Program) (l : Launch) (e : Env) (s : State) (m : MethodId) (args : Array Value) (below : List Frame) (meth : Method) (c : Code) (dC : Nat → ClassId) (dI : Nat → Nat → Nat) (kA : Nat → ClassId) (ad : Nat → Nat) (res : RS) (F : RS → Int32 → Int32 → Option (RS)) : Prop := ∀ (σ : RS) (x1 : Int32) (x2 : Int32), F σ x1 x2 = some res → ∀ (H : Heap) (locs : List Loc) (ls : Array Slot), va_P (dC, dI) vwCl (c_w kA ad σ) H → va_S (jw_A 57 ad) s.heap H locs → lv_has ls 6 [(0, .ref (ad 31)), (1, .int x1), (2, .int x2)] → W p l e rm_cX3_sendAlong s m args below meth c H locs 0 0 (c_Qu below dC dI kA ad args s res) (F0 m 0 ls [])
def s_cX3_sendAlong (σ : RS) (x1 : Int32) (x2 : Int32) : Option (RS) := kn_l (s_cX0_comesTo σ 0 x1 x2 1) (fun v1 σ2 => if v1 = 0 then some σ2 else (kn_l (s_cX0_comesTo σ2 1 x1 x2 1) (fun v3 σ4 => kn_i (s_cX2_is σ4) (fun v5 σ6 => if v5 = 0 then (if (rg_I σ6 20) < 60 then (kn_v (((rg_I σ6 19) + (rg_I σ6 20)) - ((rg_I σ6 19) + (rg_I σ6 20)) / 60 * 60) (fun v7 => kn_st (rs_A σ6 14 (upd (rg_A σ6 14) v7.toNatClampNeg x2)) 60 v7 (fun σ8 => kn_st (rs_B σ8 6 (vp_updL (rg_B σ8 6) v7.toNatClampNeg v3)) 60 v7 (fun σ9 => kn_v (rs_I σ9 20 ((rg_I σ9 20) + 1)) (fun σ10 => some σ10))))) else (kn_u (s_cX2_keep σ6 5 1 x1 x2 ((rg_I σ6 4) + 1)) (fun σ12 => some σ12))) else some σ6))))
set_option maxRecDepth 100000 in
set_option maxHeartbeats 4000000 in
theorem p_cX3_sendAlong {p : Program} {l : Launch} {e : Env} {s : State} {m : MethodId} {args : Array Value} {below : List Frame} {meth : Method} {c : Code} {dC : Nat → ClassId} {dI : Nat → Nat → Nat} {kA : Nat → ClassId} {ad : Nat → Nat} (C : jxc cX3_sendAlong none 6 RX3 p s m args meth c dC dI kA) (hap : jw_ap 57 ad) {res : RS} : G_cX3_sendAlong p l e s m args below meth c dC dI kA ad res (s_cX3_sendAlong) := by
  obtain ⟨hx, hb, hml, hown, hts, hr, hlocks, hK, hN⟩ := id C
  intro σ x1 x2 hf H locs ls hP hS hl
  unfold s_cX3_sendAlong at hf
  refine lv_aload_n hx hb dX3_sendAlong_0 rfl (lv_at hl 0 rfl) ?_
  refine c_gX3_actor hx hb hts hown hK hP (hts _ kw_376) dX3_sendAlong_1 ?_
  refine lv_iconst (v := 0) hx hb dX3_sendAlong_4 (by decide) ?_
  refine lv_iload_n hx hb dX3_sendAlong_5 rfl (lv_at hl 1 rfl) ?_
  refine lv_iload_n hx hb dX3_sendAlong_6 rfl (lv_at hl 2 rfl) ?_
  refine lv_lconst (v := 1) hx hb dX3_sendAlong_7 (by decide) ?_
  refine jk_l hf (fun res hres => jv_run hx hb hml hown hts hK hN c_hG c_hNW hl.1 (n := 4) (As := [.int 0, .int x1, .int x2, .long 1]) (rest := []) (c_cX0_comesTo l hap σ 0 x1 x2 1 res hres) hP (ci := 0) (q0 := 23) rfl rfl rfl kw_555 kw_552 kw_553 kw_554 kw_61 ⟨rfl, rfl⟩ (by decide +kernel) rfl ⟨Nat.le_of_ble_eq_true rfl, Nat.le_of_ble_eq_true rfl⟩ rfl (Nat.le_of_ble_eq_true rfl) dX3_sendAlong_8) hS (fun v1 σ2 H locs hP hS hf => ?_)
  refine lv_lconst (v := 0) hx hb dX3_sendAlong_11 (by decide) ?_
  refine jl_ne (tgt := 17) hx hb hf dX3_sendAlong_12 dX3_sendAlong_13 (by decide) (fun hf => ?_) (fun hf => ?_)
  · refine lv_aload_n hx hb dX3_sendAlong_17 rfl (lv_at hl 0 rfl) ?_
    refine c_gX3_actor hx hb hts hown hK hP (hts _ kw_376) dX3_sendAlong_18 ?_
    refine lv_iconst (v := 1) hx hb dX3_sendAlong_21 (by decide) ?_
    refine lv_iload_n hx hb dX3_sendAlong_22 rfl (lv_at hl 1 rfl) ?_
    refine lv_iload_n hx hb dX3_sendAlong_23 rfl (lv_at hl 2 rfl) ?_
    refine lv_lconst (v := 1) hx hb dX3_sendAlong_24 (by decide) ?_
    refine jk_l hf (fun res hres => jv_run hx hb hml hown hts hK hN c_hG c_hNW hl.1 (n := 4) (As := [.int 1, .int x1, .int x2, .long 1]) (rest := []) (c_cX0_comesTo l hap σ2 1 x1 x2 1 res hres) hP (ci := 0) (q0 := 23) rfl rfl rfl kw_555 kw_552 kw_553 kw_554 kw_61 ⟨rfl, rfl⟩ (by decide +kernel) rfl ⟨Nat.le_of_ble_eq_true rfl, Nat.le_of_ble_eq_true rfl⟩ rfl (Nat.le_of_ble_eq_true rfl) dX3_sendAlong_25) hS (fun v3 σ4 H locs hP hS hf => ?_)
    refine lv_lstore_n (lv' := [(3, .long v3), (0, .ref (ad 31)), (1, .int x1), (2, .int x2)]) hx hb dX3_sendAlong_28 rfl hl (by decide) rfl (fun ls hl => ?_)
    refine lv_aload_n hx hb dX3_sendAlong_29 rfl (lv_at hl 1 rfl) ?_
    refine c_gX3_failure hx hb hts hown hK hP (hts _ kw_377) dX3_sendAlong_30 ?_
    refine jk_i hf (fun res hres => jv_run hx hb hml hown hts hK hN c_hG c_hNW hl.1 (n := 0) (As := []) (rest := []) (c_cX2_is l hap σ4 res hres) hP (ci := 2) (q0 := 16) rfl rfl rfl kw_584 kw_581 kw_582 kw_583 kw_56 ⟨rfl, rfl⟩ (by decide +kernel) rfl ⟨Nat.le_of_ble_eq_true rfl, Nat.le_of_ble_eq_true rfl⟩ rfl (Nat.le_of_ble_eq_true rfl) dX3_sendAlong_33) hS (fun v5 σ6 H locs hP hS hf => ?_)
    refine jb_eq (tgt := 40) hx hb hf dX3_sendAlong_36 (by decide) (fun hf => ?_) (fun hf => ?_)
    · refine lv_aload_n hx hb dX3_sendAlong_40 rfl (lv_at hl 1 rfl) ?_
      refine c_gX3_size hx hb hts hown hK hP (hts _ kw_385) dX3_sendAlong_41 ?_
      refine lv_bipush (v := 60) hx hb dX3_sendAlong_44 (by decide) ?_
      refine jc_lt (tgt := 70) hx hb hf dX3_sendAlong_46 (by decide) (fun hf => ?_) (fun hf => ?_)
      · refine lv_aload_n hx hb dX3_sendAlong_70 rfl (lv_at hl 1 rfl) ?_
        refine c_gX3_first hx hb hts hown hK hP (hts _ kw_384) dX3_sendAlong_71 ?_
        refine lv_aload_n hx hb dX3_sendAlong_74 rfl (lv_at hl 1 rfl) ?_
        refine c_gX3_size hx hb hts hown hK hP (hts _ kw_385) dX3_sendAlong_75 ?_
        refine lv_iadd hx hb dX3_sendAlong_78 ?_
        refine lv_bipush (v := 60) hx hb dX3_sendAlong_79 (by decide) ?_
        refine lv_irem hx hb dX3_sendAlong_81 (by decide) ?_
        refine jn_i hf (fun v7 hf => ?_)
        refine lv_istore (lv' := [(5, .int v7), (3, .long v3), (0, .ref (ad 31)), (1, .int x1), (2, .int x2)]) hx hb dX3_sendAlong_82 hl (by decide) rfl (fun ls hl => ?_)
        refine lv_aload_n hx hb dX3_sendAlong_84 rfl (lv_at hl 2 rfl) ?_
        refine c_gX3_arcs hx hb hts hown hK hP (hts _ kw_380) dX3_sendAlong_85 ?_
        refine lv_iload hx hb dX3_sendAlong_88 (lv_at hl 0 rfl) ?_
        refine lv_iload_n hx hb dX3_sendAlong_90 rfl (lv_at hl 4 rfl) ?_
        refine ja_ist hx hb hK (c_D hap σ6) hP hS 32 0 rfl rfl c_sA14 hf dX3_sendAlong_91 (fun σ8 H locs hP hS hf => ?_)
        refine lv_aload_n hx hb dX3_sendAlong_92 rfl (lv_at hl 2 rfl) ?_
        refine c_gX3_values hx hb hts hown hK hP (hts _ kw_381) dX3_sendAlong_93 ?_
        refine lv_iload hx hb dX3_sendAlong_96 (lv_at hl 0 rfl) ?_
        refine lv_lload_n hx hb dX3_sendAlong_98 rfl (lv_at hl 1 rfl) ?_
        refine ja_lst hx hb hK (c_D hap σ8) hP hS 33 1 rfl rfl c_sB6 hf dX3_sendAlong_99 (fun σ9 H locs hP hS hf => ?_)
        refine lv_aload_n hx hb dX3_sendAlong_100 rfl (lv_at hl 2 rfl) ?_
        refine lv_dup hx hb dX3_sendAlong_101 rfl ?_
        refine c_gX3_size hx hb hts hown hK hP (hts _ kw_385) dX3_sendAlong_102 ?_
        refine lv_iconst (v := 1) hx hb dX3_sendAlong_105 (by decide) ?_
        refine lv_iadd hx hb dX3_sendAlong_106 ?_
        refine c_pX3_size hx hb hts hown hK hap hP hS hf (hts _ kw_385) dX3_sendAlong_107 (fun σ10 H locs hP hS hf => ?_)
        exact jr_u hx hb hr hlocks hf hP hS dX3_sendAlong_110
      · refine lv_aload_n hx hb dX3_sendAlong_49 rfl (lv_at hl 1 rfl) ?_
        refine c_gX3_failure hx hb hts hown hK hP (hts _ kw_377) dX3_sendAlong_50 ?_
        refine lv_iconst (v := 5) hx hb dX3_sendAlong_53 (by decide) ?_
        refine lv_iconst (v := 1) hx hb dX3_sendAlong_54 (by decide) ?_
        refine lv_iload_n hx hb dX3_sendAlong_55 rfl (lv_at hl 2 rfl) ?_
        refine lv_iload_n hx hb dX3_sendAlong_56 rfl (lv_at hl 3 rfl) ?_
        refine lv_aload_n hx hb dX3_sendAlong_57 rfl (lv_at hl 1 rfl) ?_
        refine c_gX3_web hx hb hts hown hK hP (hts _ kw_375) dX3_sendAlong_58 ?_
        refine c_gX10_rounds hx hb hts hown hK hP (hts _ kw_146) dX3_sendAlong_61 ?_
        refine lv_iconst (v := 1) hx hb dX3_sendAlong_64 (by decide) ?_
        refine lv_iadd hx hb dX3_sendAlong_65 ?_
        refine jk_u hf (fun res hres => jv_run hx hb hml hown hts hK hN c_hG c_hNW hl.1 (n := 5) (As := [.int 5, .int 1, .int x1, .int x2, .int ((rg_I σ6 4) + 1)]) (rest := []) (c_cX2_keep l hap σ6 5 1 x1 x2 ((rg_I σ6 4) + 1) res hres) hP (ci := 2) (q0 := 16) rfl rfl rfl kw_580 kw_585 kw_578 kw_579 kw_56 ⟨rfl, rfl⟩ (by decide +kernel) rfl ⟨Nat.le_of_ble_eq_true rfl, Nat.le_of_ble_eq_true rfl⟩ rfl (Nat.le_of_ble_eq_true rfl) dX3_sendAlong_66) hS (fun σ12 H locs hP hS hf => ?_)
        exact jr_u hx hb hr hlocks hf hP hS dX3_sendAlong_69
    · exact jr_u hx hb hr hlocks hf hP hS dX3_sendAlong_39
  · exact jr_u hx hb hr hlocks hf hP hS dX3_sendAlong_16
theorem c_cX3_sendAlong (l : Launch) {dC : Nat → ClassId} {dI : Nat → Nat → Nat} {kA : Nat → ClassId} {ad : Nat → Nat} (hap : jw_ap 57 ad) (σ : RS) (x1 : Int32) (x2 : Int32) (res : RS) (hf : s_cX3_sendAlong σ x1 x2 = some res) : jm_u l KW NW (dC, dI) vwCl (jtys kA) (jw_A 57 ad) (c_w kA ad) yX3_sendAlong cX3_sendAlong 6 (rm_cX3_sendAlong) [.ref (ad 31), .int x1, .int x2] σ res := jm_u_of (by decide) (Nat.le_of_ble_eq_true rfl) (fun p e s m below meth c C hP hS ls hl => p_cX3_sendAlong C hap σ x1 x2 hf s.heap [] ls hP hS hl)

def rm_cX3_takeStates : Room := { frames := 44, cells := 0, slots := 0, locals := 1271 }
def G_cX3_takeStates_b48 (p : Program) (l : Launch) (e : Env) (s : State) (m : MethodId) (args : Array Value) (below : List Frame) (meth : Method) (c : Code) (dC : Nat → ClassId) (dI : Nat → Nat → Nat) (kA : Nat → ClassId) (ad : Nat → Nat) (res : RS) (F : RS → Int32 → Option (RS)) : Prop := ∀ (σ : RS) (x1 : Int32), F σ x1 = some res → ∀ (H : Heap) (locs : List Loc) (ls : Array Slot), va_P (dC, dI) vwCl (c_w kA ad σ) H → va_S (jw_A 57 ad) s.heap H locs → lv_has ls 3 [(0, .ref (ad 31)), (1, .int x1)] → W p l e rm_cX3_takeStates s m args below meth c H locs 0 0 (c_Qu below dC dI kA ad args s res) (F0 m 48 ls [])
def G_cX3_takeStates_b2 (p : Program) (l : Launch) (e : Env) (s : State) (m : MethodId) (args : Array Value) (below : List Frame) (meth : Method) (c : Code) (dC : Nat → ClassId) (dI : Nat → Nat → Nat) (kA : Nat → ClassId) (ad : Nat → Nat) (res : RS) (F : RS → Int32 → Int32 → Option (RS)) : Prop := ∀ (σ : RS) (x1 : Int32) (x2 : Int32), F σ x1 x2 = some res → ∀ (H : Heap) (locs : List Loc) (ls : Array Slot), va_P (dC, dI) vwCl (c_w kA ad σ) H → va_S (jw_A 57 ad) s.heap H locs → lv_has ls 3 [(0, .ref (ad 31)), (1, .int x1), (2, .int x2)] → W p l e rm_cX3_takeStates s m args below meth c H locs 0 0 (c_Qu below dC dI kA ad args s res) (F0 m 2 ls [])
def G_cX3_takeStates (p : Program) (l : Launch) (e : Env) (s : State) (m : MethodId) (args : Array Value) (below : List Frame) (meth : Method) (c : Code) (dC : Nat → ClassId) (dI : Nat → Nat → Nat) (kA : Nat → ClassId) (ad : Nat → Nat) (res : RS) (F : RS → Int32 → Option (RS)) : Prop := ∀ (σ : RS) (x1 : Int32), F σ x1 = some res → ∀ (H : Heap) (locs : List Loc) (ls : Array Slot), va_P (dC, dI) vwCl (c_w kA ad σ) H → va_S (jw_A 57 ad) s.heap H locs → lv_has ls 3 [(0, .ref (ad 31)), (1, .int x1)] → W p l e rm_cX3_takeStates s m args below meth c H locs 0 0 (c_Qu below dC dI kA ad args s res) (F0 m 0 ls [])
def s_cX3_takeStates_b48 (σ : RS) (x1 : Int32) : Option (RS) := kn_cp 3 36 (0 : Int32) (x1 * 3) (3 : Int32) (rs_B σ 1 (va_cpy (rg_B σ 7) (rg_B σ 1) (0 : Int32).toNatClampNeg (x1 * 3).toNatClampNeg (3 : Int32).toNatClampNeg)) (fun σ1 => some σ1)
set_option maxRecDepth 100000 in
set_option maxHeartbeats 4000000 in
theorem p_cX3_takeStates_b48 {p : Program} {l : Launch} {e : Env} {s : State} {m : MethodId} {args : Array Value} {below : List Frame} {meth : Method} {c : Code} {dC : Nat → ClassId} {dI : Nat → Nat → Nat} {kA : Nat → ClassId} {ad : Nat → Nat} (C : jxc cX3_takeStates none 3 RX3 p s m args meth c dC dI kA) (hap : jw_ap 57 ad) {res : RS} : G_cX3_takeStates_b48 p l e s m args below meth c dC dI kA ad res (s_cX3_takeStates_b48) := by
  obtain ⟨hx, hb, hml, hown, hts, hr, hlocks, hK, hN⟩ := id C
  intro σ x1 hf H locs ls hP hS hl
  unfold s_cX3_takeStates_b48 at hf
  refine lv_aload_n hx hb dX3_takeStates_48 rfl (lv_at hl 0 rfl) ?_
  refine c_gX3_newStates hx hb hts hown hK hP (hts _ kw_382) dX3_takeStates_49 ?_
  refine lv_iconst (v := 0) hx hb dX3_takeStates_52 (by decide) ?_
  refine lv_aload_n hx hb dX3_takeStates_53 rfl (lv_at hl 0 rfl) ?_
  refine c_gX3_web hx hb hts hown hK hP (hts _ kw_375) dX3_takeStates_54 ?_
  refine c_gX10_states hx hb hts hown hK hP (hts _ kw_118) dX3_takeStates_57 ?_
  refine lv_iload_n hx hb dX3_takeStates_60 rfl (lv_at hl 1 rfl) ?_
  refine lv_iconst (v := 3) hx hb dX3_takeStates_61 (by decide) ?_
  refine lv_imul hx hb dX3_takeStates_62 ?_
  refine lv_iconst (v := 3) hx hb dX3_takeStates_63 (by decide) ?_
  refine ja_cpl hx hb (hml.trans hl.1.symm) hown (hts _ kw_590) (hts _ kw_531) (hts _ kw_530) (hts _ kw_65) hK (c_D hap σ) hP hS 34 8 1 rfl rfl rfl c_sB1 hf (Nat.le_of_ble_eq_true rfl) (Nat.le_of_ble_eq_true rfl) dX3_takeStates_64 (fun σ1 H locs hP hS hf => ?_)
  exact jr_u hx hb hr hlocks hf hP hS dX3_takeStates_67
def s_cX3_takeStates_b2 (k2 : RS → Int32 → Int32 → Option (RS)) (σ : RS) (x1 : Int32) (x2 : Int32) : Option (RS) := if 3 ≤ x2 then (s_cX3_takeStates_b48 σ x1) else (kn_ld (rg_B σ 8) 3 x2 (fun v1 => kn_l (s_cX0_comesTo σ (2 + x2) x1 (-1) v1) (fun v2 σ3 => kn_st (rs_B σ3 7 (vp_updL (rg_B σ3 7) x2.toNatClampNeg v2)) 3 x2 (fun σ4 => kn_i (s_cX2_is σ4) (fun v5 σ6 => if v5 = 0 then (kn_v (x2 + 1) (fun v7 => k2 σ6 x1 v7)) else some σ6)))))
set_option maxRecDepth 100000 in
set_option maxHeartbeats 4000000 in
theorem p_cX3_takeStates_b2 {p : Program} {l : Launch} {e : Env} {s : State} {m : MethodId} {args : Array Value} {below : List Frame} {meth : Method} {c : Code} {dC : Nat → ClassId} {dI : Nat → Nat → Nat} {kA : Nat → ClassId} {ad : Nat → Nat} (C : jxc cX3_takeStates none 3 RX3 p s m args meth c dC dI kA) (hap : jw_ap 57 ad) {res : RS} {k2 : RS → Int32 → Int32 → Option (RS)} (hk2 : G_cX3_takeStates_b2 p l e s m args below meth c dC dI kA ad res k2) : G_cX3_takeStates_b2 p l e s m args below meth c dC dI kA ad res (s_cX3_takeStates_b2 k2) := by
  obtain ⟨hx, hb, hml, hown, hts, hr, hlocks, hK, hN⟩ := id C
  intro σ x1 x2 hf H locs ls hP hS hl
  unfold s_cX3_takeStates_b2 at hf
  refine lv_iload_n hx hb dX3_takeStates_2 rfl (lv_at hl 2 rfl) ?_
  refine lv_iconst (v := 3) hx hb dX3_takeStates_3 (by decide) ?_
  refine jc_ge (tgt := 48) hx hb hf dX3_takeStates_4 (by decide) (fun hf => ?_) (fun hf => ?_)
  · exact (p_cX3_takeStates_b48 C hap) σ x1 hf H locs ls hP hS (lv_sub hl [0, 1] rfl)
  · refine lv_aload_n hx hb dX3_takeStates_7 rfl (lv_at hl 0 rfl) ?_
    refine c_gX3_newStates hx hb hts hown hK hP (hts _ kw_382) dX3_takeStates_8 ?_
    refine lv_iload_n hx hb dX3_takeStates_11 rfl (lv_at hl 2 rfl) ?_
    refine lv_aload_n hx hb dX3_takeStates_12 rfl (lv_at hl 0 rfl) ?_
    refine c_gX3_actor hx hb hts hown hK hP (hts _ kw_376) dX3_takeStates_13 ?_
    refine lv_iconst (v := 2) hx hb dX3_takeStates_16 (by decide) ?_
    refine lv_iload_n hx hb dX3_takeStates_17 rfl (lv_at hl 2 rfl) ?_
    refine lv_iadd hx hb dX3_takeStates_18 ?_
    refine lv_iload_n hx hb dX3_takeStates_19 rfl (lv_at hl 1 rfl) ?_
    refine lv_iconst (v := (-1)) hx hb dX3_takeStates_20 (by decide) ?_
    refine lv_aload_n hx hb dX3_takeStates_21 rfl (lv_at hl 0 rfl) ?_
    refine c_gX3_oldStates hx hb hts hown hK hP (hts _ kw_383) dX3_takeStates_22 ?_
    refine lv_iload_n hx hb dX3_takeStates_25 rfl (lv_at hl 2 rfl) ?_
    refine ja_lld hx hb hK hP 35 1 rfl rfl hf dX3_takeStates_26 (fun v1 hf => ?_)
    refine jk_l hf (fun res hres => jv_run hx hb hml hown hts hK hN c_hG c_hNW hl.1 (n := 4) (As := [.int (2 + x2), .int x1, .int (-1), .long v1]) (rest := [.int x2, .ref (ad 34)]) (c_cX0_comesTo l hap σ (2 + x2) x1 (-1) v1 res hres) hP (ci := 0) (q0 := 23) rfl rfl rfl kw_555 kw_552 kw_553 kw_554 kw_61 ⟨rfl, rfl⟩ (by decide +kernel) rfl ⟨Nat.le_of_ble_eq_true rfl, Nat.le_of_ble_eq_true rfl⟩ rfl (Nat.le_of_ble_eq_true rfl) dX3_takeStates_27) hS (fun v2 σ3 H locs hP hS hf => ?_)
    refine ja_lst hx hb hK (c_D hap σ3) hP hS 34 1 rfl rfl c_sB7 hf dX3_takeStates_30 (fun σ4 H locs hP hS hf => ?_)
    refine lv_aload_n hx hb dX3_takeStates_31 rfl (lv_at hl 0 rfl) ?_
    refine c_gX3_failure hx hb hts hown hK hP (hts _ kw_377) dX3_takeStates_32 ?_
    refine jk_i hf (fun res hres => jv_run hx hb hml hown hts hK hN c_hG c_hNW hl.1 (n := 0) (As := []) (rest := []) (c_cX2_is l hap σ4 res hres) hP (ci := 2) (q0 := 16) rfl rfl rfl kw_584 kw_581 kw_582 kw_583 kw_56 ⟨rfl, rfl⟩ (by decide +kernel) rfl ⟨Nat.le_of_ble_eq_true rfl, Nat.le_of_ble_eq_true rfl⟩ rfl (Nat.le_of_ble_eq_true rfl) dX3_takeStates_35) hS (fun v5 σ6 H locs hP hS hf => ?_)
    refine jb_eq (tgt := 42) hx hb hf dX3_takeStates_38 (by decide) (fun hf => ?_) (fun hf => ?_)
    · obtain ⟨v7, e_v7, hf⟩ := kn_v_e hf
      refine lv_iinc (v := v7) (lv' := [(2, .int v7), (0, .ref (ad 31)), (1, .int x1)]) hx hb dX3_takeStates_42 hl (k := 2) rfl e_v7 (by decide) rfl (fun ls hl => ?_)
      refine lv_goto (tgt := 2) hx hb dX3_takeStates_45 (by decide) ?_
      exact hk2 σ6 x1 v7 hf H locs ls hP hS (lv_sub hl [1, 2, 0] rfl)
    · exact jr_u hx hb hr hlocks hf hP hS dX3_takeStates_41
def f_cX3_takeStates_b2 : RS → Int32 → Int32 → Option (RS) := kn_fix (fun _ _ _ => none) (s_cX3_takeStates_b2) FU
theorem q_cX3_takeStates_b2 {p : Program} {l : Launch} {e : Env} {s : State} {m : MethodId} {args : Array Value} {below : List Frame} {meth : Method} {c : Code} {dC : Nat → ClassId} {dI : Nat → Nat → Nat} {kA : Nat → ClassId} {ad : Nat → Nat} (C : jxc cX3_takeStates none 3 RX3 p s m args meth c dC dI kA) (hap : jw_ap 57 ad) {res : RS} : G_cX3_takeStates_b2 p l e s m args below meth c dC dI kA ad res (f_cX3_takeStates_b2) := kn_fix_ind (G := fun F => G_cX3_takeStates_b2 p l e s m args below meth c dC dI kA ad res F) (fun _ _ _ hf => by cases hf) (fun k2 hk2 => p_cX3_takeStates_b2 C hap hk2) FU
def s_cX3_takeStates (σ : RS) (x1 : Int32) : Option (RS) := f_cX3_takeStates_b2 σ x1 0
set_option maxRecDepth 100000 in
set_option maxHeartbeats 4000000 in
theorem p_cX3_takeStates {p : Program} {l : Launch} {e : Env} {s : State} {m : MethodId} {args : Array Value} {below : List Frame} {meth : Method} {c : Code} {dC : Nat → ClassId} {dI : Nat → Nat → Nat} {kA : Nat → ClassId} {ad : Nat → Nat} (C : jxc cX3_takeStates none 3 RX3 p s m args meth c dC dI kA) (hap : jw_ap 57 ad) {res : RS} : G_cX3_takeStates p l e s m args below meth c dC dI kA ad res (s_cX3_takeStates) := by
  obtain ⟨hx, hb, hml, hown, hts, hr, hlocks, hK, hN⟩ := id C
  intro σ x1 hf H locs ls hP hS hl
  unfold s_cX3_takeStates at hf
  refine lv_iconst (v := 0) hx hb dX3_takeStates_0 (by decide) ?_
  refine lv_istore_n (lv' := [(2, .int 0), (0, .ref (ad 31)), (1, .int x1)]) hx hb dX3_takeStates_1 rfl hl (by decide) rfl (fun ls hl => ?_)
  exact (q_cX3_takeStates_b2 C hap) σ x1 0 hf H locs ls hP hS (lv_sub hl [1, 2, 0] rfl)
theorem c_cX3_takeStates (l : Launch) {dC : Nat → ClassId} {dI : Nat → Nat → Nat} {kA : Nat → ClassId} {ad : Nat → Nat} (hap : jw_ap 57 ad) (σ : RS) (x1 : Int32) (res : RS) (hf : s_cX3_takeStates σ x1 = some res) : jm_u l KW NW (dC, dI) vwCl (jtys kA) (jw_A 57 ad) (c_w kA ad) yX3_takeStates cX3_takeStates 3 (rm_cX3_takeStates) [.ref (ad 31), .int x1] σ res := jm_u_of (by decide) (Nat.le_of_ble_eq_true rfl) (fun p e s m below meth c C hP hS ls hl => p_cX3_takeStates C hap σ x1 hf s.heap [] ls hP hS hl)

def rm_cX7_sendAlong : Room := { frames := 44, cells := 0, slots := 0, locals := 1271 }
def G_cX7_sendAlong (p : Program) (l : Launch) (e : Env) (s : State) (m : MethodId) (args : Array Value) (below : List Frame) (meth : Method) (c : Code) (dC : Nat → ClassId) (dI : Nat → Nat → Nat) (kA : Nat → ClassId) (ad : Nat → Nat) (res : RS) (F : RS → Int32 → Option (RS)) : Prop := ∀ (σ : RS) (x1 : Int32), F σ x1 = some res → ∀ (H : Heap) (locs : List Loc) (ls : Array Slot), va_P (dC, dI) vwCl (c_w kA ad σ) H → va_S (jw_A 57 ad) s.heap H locs → lv_has ls 3 [(0, .ref (ad 24)), (1, .int x1)] → W p l e rm_cX7_sendAlong s m args below meth c H locs 0 0 (c_Qu below dC dI kA ad args s res) (F0 m 0 ls [])
def s_cX7_sendAlong (σ : RS) (x1 : Int32) : Option (RS) := kn_ld (rg_A σ 6) 40 x1 (fun v1 => if 40 ≤ (rg_I σ 18) then some σ else (kn_l (s_cX0_comesTo σ 0 v1 x1 1) (fun v2 σ3 => if v2 = 0 then some σ3 else (kn_l (s_cX0_comesTo σ3 1 v1 x1 1) (fun v4 σ5 => kn_st (rs_B σ5 4 (vp_updL (rg_B σ5 4) x1.toNatClampNeg v4)) 40 x1 (fun σ6 => kn_st (rs_A σ6 11 (upd (rg_A σ6 11) x1.toNatClampNeg 1)) 40 x1 (fun σ7 => kn_st (rs_A σ7 10 (upd (rg_A σ7 10) (rg_I σ7 18).toNatClampNeg x1)) 40 (rg_I σ7 18) (fun σ8 => kn_v (rs_I σ8 18 ((rg_I σ8 18) + 1)) (fun σ9 => some σ9)))))))))
set_option maxRecDepth 100000 in
set_option maxHeartbeats 4000000 in
theorem p_cX7_sendAlong {p : Program} {l : Launch} {e : Env} {s : State} {m : MethodId} {args : Array Value} {below : List Frame} {meth : Method} {c : Code} {dC : Nat → ClassId} {dI : Nat → Nat → Nat} {kA : Nat → ClassId} {ad : Nat → Nat} (C : jxc cX7_sendAlong none 3 RX7 p s m args meth c dC dI kA) (hap : jw_ap 57 ad) {res : RS} : G_cX7_sendAlong p l e s m args below meth c dC dI kA ad res (s_cX7_sendAlong) := by
  obtain ⟨hx, hb, hml, hown, hts, hr, hlocks, hK, hN⟩ := id C
  intro σ x1 hf H locs ls hP hS hl
  unfold s_cX7_sendAlong at hf
  refine lv_aload_n hx hb dX7_sendAlong_0 rfl (lv_at hl 0 rfl) ?_
  refine c_gX7_web hx hb hts hown hK hP (hts _ kw_332) dX7_sendAlong_1 ?_
  refine c_gX10_from hx hb hts hown hK hP (hts _ kw_129) dX7_sendAlong_4 ?_
  refine lv_iload_n hx hb dX7_sendAlong_7 rfl (lv_at hl 1 rfl) ?_
  refine ja_ild hx hb hK hP 11 0 rfl rfl hf dX7_sendAlong_8 (fun v1 hf => ?_)
  refine lv_istore_n (lv' := [(2, .int v1), (0, .ref (ad 24)), (1, .int x1)]) hx hb dX7_sendAlong_9 rfl hl (by decide) rfl (fun ls hl => ?_)
  refine lv_aload_n hx hb dX7_sendAlong_10 rfl (lv_at hl 1 rfl) ?_
  refine c_gX7_sent hx hb hts hown hK hP (hts _ kw_343) dX7_sendAlong_11 ?_
  refine lv_bipush (v := 40) hx hb dX7_sendAlong_14 (by decide) ?_
  refine jc_ge (tgt := 35) hx hb hf dX7_sendAlong_16 (by decide) (fun hf => ?_) (fun hf => ?_)
  · exact jr_u hx hb hr hlocks hf hP hS dX7_sendAlong_35
  · refine lv_aload_n hx hb dX7_sendAlong_19 rfl (lv_at hl 1 rfl) ?_
    refine c_gX7_actor hx hb hts hown hK hP (hts _ kw_333) dX7_sendAlong_20 ?_
    refine lv_iconst (v := 0) hx hb dX7_sendAlong_23 (by decide) ?_
    refine lv_iload_n hx hb dX7_sendAlong_24 rfl (lv_at hl 0 rfl) ?_
    refine lv_iload_n hx hb dX7_sendAlong_25 rfl (lv_at hl 2 rfl) ?_
    refine lv_lconst (v := 1) hx hb dX7_sendAlong_26 (by decide) ?_
    refine jk_l hf (fun res hres => jv_run hx hb hml hown hts hK hN c_hG c_hNW hl.1 (n := 4) (As := [.int 0, .int v1, .int x1, .long 1]) (rest := []) (c_cX0_comesTo l hap σ 0 v1 x1 1 res hres) hP (ci := 0) (q0 := 23) rfl rfl rfl kw_555 kw_634 kw_553 kw_554 kw_61 ⟨rfl, rfl⟩ (by decide +kernel) rfl ⟨Nat.le_of_ble_eq_true rfl, Nat.le_of_ble_eq_true rfl⟩ rfl (Nat.le_of_ble_eq_true rfl) dX7_sendAlong_27) hS (fun v2 σ3 H locs hP hS hf => ?_)
    refine lv_lconst (v := 0) hx hb dX7_sendAlong_30 (by decide) ?_
    refine jl_ne (tgt := 36) hx hb hf dX7_sendAlong_31 dX7_sendAlong_32 (by decide) (fun hf => ?_) (fun hf => ?_)
    · refine lv_aload_n hx hb dX7_sendAlong_36 rfl (lv_at hl 1 rfl) ?_
      refine c_gX7_carried hx hb hts hown hK hP (hts _ kw_339) dX7_sendAlong_37 ?_
      refine lv_iload_n hx hb dX7_sendAlong_40 rfl (lv_at hl 2 rfl) ?_
      refine lv_aload_n hx hb dX7_sendAlong_41 rfl (lv_at hl 1 rfl) ?_
      refine c_gX7_actor hx hb hts hown hK hP (hts _ kw_333) dX7_sendAlong_42 ?_
      refine lv_iconst (v := 1) hx hb dX7_sendAlong_45 (by decide) ?_
      refine lv_iload_n hx hb dX7_sendAlong_46 rfl (lv_at hl 0 rfl) ?_
      refine lv_iload_n hx hb dX7_sendAlong_47 rfl (lv_at hl 2 rfl) ?_
      refine lv_lconst (v := 1) hx hb dX7_sendAlong_48 (by decide) ?_
      refine jk_l hf (fun res hres => jv_run hx hb hml hown hts hK hN c_hG c_hNW hl.1 (n := 4) (As := [.int 1, .int v1, .int x1, .long 1]) (rest := [.int x1, .ref (ad 27)]) (c_cX0_comesTo l hap σ3 1 v1 x1 1 res hres) hP (ci := 0) (q0 := 23) rfl rfl rfl kw_555 kw_634 kw_553 kw_554 kw_61 ⟨rfl, rfl⟩ (by decide +kernel) rfl ⟨Nat.le_of_ble_eq_true rfl, Nat.le_of_ble_eq_true rfl⟩ rfl (Nat.le_of_ble_eq_true rfl) dX7_sendAlong_49) hS (fun v4 σ5 H locs hP hS hf => ?_)
      refine ja_lst hx hb hK (c_D hap σ5) hP hS 27 1 rfl rfl c_sB4 hf dX7_sendAlong_52 (fun σ6 H locs hP hS hf => ?_)
      refine lv_aload_n hx hb dX7_sendAlong_53 rfl (lv_at hl 1 rfl) ?_
      refine c_gX7_carries hx hb hts hown hK hP (hts _ kw_338) dX7_sendAlong_54 ?_
      refine lv_iload_n hx hb dX7_sendAlong_57 rfl (lv_at hl 2 rfl) ?_
      refine lv_iconst (v := 1) hx hb dX7_sendAlong_58 (by decide) ?_
      refine ja_zst hx hb hK (c_D hap σ6) hP hS 26 2 rfl rfl (by decide) c_sA11 hf dX7_sendAlong_59 (fun σ7 H locs hP hS hf => ?_)
      refine lv_aload_n hx hb dX7_sendAlong_60 rfl (lv_at hl 1 rfl) ?_
      refine c_gX7_sentArcs hx hb hts hown hK hP (hts _ kw_337) dX7_sendAlong_61 ?_
      refine lv_aload_n hx hb dX7_sendAlong_64 rfl (lv_at hl 1 rfl) ?_
      refine c_gX7_sent hx hb hts hown hK hP (hts _ kw_343) dX7_sendAlong_65 ?_
      refine lv_iload_n hx hb dX7_sendAlong_68 rfl (lv_at hl 2 rfl) ?_
      refine ja_ist hx hb hK (c_D hap σ7) hP hS 25 0 rfl rfl c_sA10 hf dX7_sendAlong_69 (fun σ8 H locs hP hS hf => ?_)
      refine lv_aload_n hx hb dX7_sendAlong_70 rfl (lv_at hl 1 rfl) ?_
      refine lv_dup hx hb dX7_sendAlong_71 rfl ?_
      refine c_gX7_sent hx hb hts hown hK hP (hts _ kw_343) dX7_sendAlong_72 ?_
      refine lv_iconst (v := 1) hx hb dX7_sendAlong_75 (by decide) ?_
      refine lv_iadd hx hb dX7_sendAlong_76 ?_
      refine c_pX7_sent hx hb hts hown hK hap hP hS hf (hts _ kw_343) dX7_sendAlong_77 (fun σ9 H locs hP hS hf => ?_)
      exact jr_u hx hb hr hlocks hf hP hS dX7_sendAlong_80
    · exact jr_u hx hb hr hlocks hf hP hS dX7_sendAlong_35
theorem c_cX7_sendAlong (l : Launch) {dC : Nat → ClassId} {dI : Nat → Nat → Nat} {kA : Nat → ClassId} {ad : Nat → Nat} (hap : jw_ap 57 ad) (σ : RS) (x1 : Int32) (res : RS) (hf : s_cX7_sendAlong σ x1 = some res) : jm_u l KW NW (dC, dI) vwCl (jtys kA) (jw_A 57 ad) (c_w kA ad) yX7_sendAlong cX7_sendAlong 3 (rm_cX7_sendAlong) [.ref (ad 24), .int x1] σ res := jm_u_of (by decide) (Nat.le_of_ble_eq_true rfl) (fun p e s m below meth c C hP hS ls hl => p_cX7_sendAlong C hap σ x1 hf s.heap [] ls hP hS hl)
