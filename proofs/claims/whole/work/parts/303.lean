theorem dX12_asBefore_0 : decode cX12_asBefore 0 = .ok (.iconst 0, 1) := by decide +kernel
theorem dX12_asBefore_1 : decode cX12_asBefore 1 = .ok (.istore_n 1, 1) := by decide +kernel
theorem dX12_asBefore_2 : decode cX12_asBefore 2 = .ok (.iload_n 1, 1) := by decide +kernel
theorem dX12_asBefore_3 : decode cX12_asBefore 3 = .ok (.bipush 36, 2) := by decide +kernel
theorem dX12_asBefore_5 : decode cX12_asBefore 5 = .ok (.if_icmp .ge 21, 3) := by decide +kernel
theorem dX12_asBefore_8 : decode cX12_asBefore 8 = .ok (.aload_n 0, 1) := by decide +kernel
theorem dX12_asBefore_9 : decode cX12_asBefore 9 = .ok (.getfield 26, 3) := by decide +kernel
theorem dX12_asBefore_12 : decode cX12_asBefore 12 = .ok (.iload_n 1, 1) := by decide +kernel
theorem dX12_asBefore_13 : decode cX12_asBefore 13 = .ok (.aload_n 0, 1) := by decide +kernel
theorem dX12_asBefore_14 : decode cX12_asBefore 14 = .ok (.getfield 90, 3) := by decide +kernel
theorem dX12_asBefore_17 : decode cX12_asBefore 17 = .ok (.iload_n 1, 1) := by decide +kernel
theorem dX12_asBefore_18 : decode cX12_asBefore 18 = .ok (.laload, 1) := by decide +kernel
theorem dX12_asBefore_19 : decode cX12_asBefore 19 = .ok (.lastore, 1) := by decide +kernel
theorem dX12_asBefore_20 : decode cX12_asBefore 20 = .ok (.iinc 1 1, 3) := by decide +kernel
theorem dX12_asBefore_23 : decode cX12_asBefore 23 = .ok (.goto (-21), 3) := by decide +kernel
theorem dX12_asBefore_26 : decode cX12_asBefore 26 = .ok (.iconst 0, 1) := by decide +kernel
theorem dX12_asBefore_27 : decode cX12_asBefore 27 = .ok (.istore_n 1, 1) := by decide +kernel
theorem dX12_asBefore_28 : decode cX12_asBefore 28 = .ok (.iload_n 1, 1) := by decide +kernel
theorem dX12_asBefore_29 : decode cX12_asBefore 29 = .ok (.bipush 12, 2) := by decide +kernel
theorem dX12_asBefore_31 : decode cX12_asBefore 31 = .ok (.if_icmp .ge 21, 3) := by decide +kernel
theorem dX12_asBefore_34 : decode cX12_asBefore 34 = .ok (.aload_n 0, 1) := by decide +kernel
theorem dX12_asBefore_35 : decode cX12_asBefore 35 = .ok (.getfield 29, 3) := by decide +kernel
theorem dX12_asBefore_38 : decode cX12_asBefore 38 = .ok (.iload_n 1, 1) := by decide +kernel
theorem dX12_asBefore_39 : decode cX12_asBefore 39 = .ok (.aload_n 0, 1) := by decide +kernel
theorem dX12_asBefore_40 : decode cX12_asBefore 40 = .ok (.getfield 93, 3) := by decide +kernel
theorem dX12_asBefore_43 : decode cX12_asBefore 43 = .ok (.iload_n 1, 1) := by decide +kernel
theorem dX12_asBefore_44 : decode cX12_asBefore 44 = .ok (.baload, 1) := by decide +kernel
theorem dX12_asBefore_45 : decode cX12_asBefore 45 = .ok (.bastore, 1) := by decide +kernel
theorem dX12_asBefore_46 : decode cX12_asBefore 46 = .ok (.iinc 1 1, 3) := by decide +kernel
theorem dX12_asBefore_49 : decode cX12_asBefore 49 = .ok (.goto (-21), 3) := by decide +kernel
theorem dX12_asBefore_52 : decode cX12_asBefore 52 = .ok (.return_, 1) := by decide +kernel
theorem dX12_isAnyAwake_0 : decode cX12_isAnyAwake 0 = .ok (.iconst 0, 1) := by decide +kernel
theorem dX12_isAnyAwake_1 : decode cX12_isAnyAwake 1 = .ok (.istore_n 1, 1) := by decide +kernel
theorem dX12_isAnyAwake_2 : decode cX12_isAnyAwake 2 = .ok (.iconst 0, 1) := by decide +kernel
theorem dX12_isAnyAwake_3 : decode cX12_isAnyAwake 3 = .ok (.istore_n 2, 1) := by decide +kernel
theorem dX12_isAnyAwake_4 : decode cX12_isAnyAwake 4 = .ok (.iload_n 2, 1) := by decide +kernel
theorem dX12_isAnyAwake_5 : decode cX12_isAnyAwake 5 = .ok (.aload_n 0, 1) := by decide +kernel
theorem dX12_isAnyAwake_6 : decode cX12_isAnyAwake 6 = .ok (.getfield 116, 3) := by decide +kernel
theorem dX12_isAnyAwake_9 : decode cX12_isAnyAwake 9 = .ok (.if_icmp .ge 28, 3) := by decide +kernel
theorem dX12_isAnyAwake_12 : decode cX12_isAnyAwake 12 = .ok (.iload_n 1, 1) := by decide +kernel
theorem dX12_isAnyAwake_13 : decode cX12_isAnyAwake 13 = .ok (.ifCond .ne 12, 3) := by decide +kernel
theorem dX12_isAnyAwake_16 : decode cX12_isAnyAwake 16 = .ok (.aload_n 0, 1) := by decide +kernel
theorem dX12_isAnyAwake_17 : decode cX12_isAnyAwake 17 = .ok (.getfield 29, 3) := by decide +kernel
theorem dX12_isAnyAwake_20 : decode cX12_isAnyAwake 20 = .ok (.iload_n 2, 1) := by decide +kernel
theorem dX12_isAnyAwake_21 : decode cX12_isAnyAwake 21 = .ok (.baload, 1) := by decide +kernel
theorem dX12_isAnyAwake_22 : decode cX12_isAnyAwake 22 = .ok (.ifCond .eq 7, 3) := by decide +kernel
theorem dX12_isAnyAwake_25 : decode cX12_isAnyAwake 25 = .ok (.iconst 1, 1) := by decide +kernel
theorem dX12_isAnyAwake_26 : decode cX12_isAnyAwake 26 = .ok (.goto 4, 3) := by decide +kernel
theorem dX12_isAnyAwake_29 : decode cX12_isAnyAwake 29 = .ok (.iconst 0, 1) := by decide +kernel
theorem dX12_isAnyAwake_30 : decode cX12_isAnyAwake 30 = .ok (.istore_n 1, 1) := by decide +kernel
theorem dX12_isAnyAwake_31 : decode cX12_isAnyAwake 31 = .ok (.iinc 2 1, 3) := by decide +kernel
theorem dX12_isAnyAwake_34 : decode cX12_isAnyAwake 34 = .ok (.goto (-30), 3) := by decide +kernel
theorem dX12_isAnyAwake_37 : decode cX12_isAnyAwake 37 = .ok (.iload_n 1, 1) := by decide +kernel
theorem dX12_isAnyAwake_38 : decode cX12_isAnyAwake 38 = .ok (.ireturn, 1) := by decide +kernel
theorem dX12_undo_0 : decode cX12_undo 0 = .ok (.aload_n 0, 1) := by decide +kernel
theorem dX12_undo_1 : decode cX12_undo 1 = .ok (.getfield 128, 3) := by decide +kernel
theorem dX12_undo_4 : decode cX12_undo 4 = .ok (.ifCond .ne 5, 3) := by decide +kernel
theorem dX12_undo_7 : decode cX12_undo 7 = .ok (.iconst (-1), 1) := by decide +kernel
theorem dX12_undo_8 : decode cX12_undo 8 = .ok (.ireturn, 1) := by decide +kernel
theorem dX12_undo_9 : decode cX12_undo 9 = .ok (.aload_n 0, 1) := by decide +kernel
theorem dX12_undo_10 : decode cX12_undo 10 = .ok (.dup, 1) := by decide +kernel
theorem dX12_undo_11 : decode cX12_undo 11 = .ok (.getfield 128, 3) := by decide +kernel
theorem dX12_undo_14 : decode cX12_undo 14 = .ok (.iconst 1, 1) := by decide +kernel
theorem dX12_undo_15 : decode cX12_undo 15 = .ok (.isub, 1) := by decide +kernel
theorem dX12_undo_16 : decode cX12_undo 16 = .ok (.putfield 128, 3) := by decide +kernel
theorem dX12_undo_19 : decode cX12_undo 19 = .ok (.iconst 0, 1) := by decide +kernel
theorem dX12_undo_20 : decode cX12_undo 20 = .ok (.istore_n 1, 1) := by decide +kernel
theorem dX12_undo_21 : decode cX12_undo 21 = .ok (.iload_n 1, 1) := by decide +kernel
theorem dX12_undo_22 : decode cX12_undo 22 = .ok (.bipush 36, 2) := by decide +kernel
theorem dX12_undo_24 : decode cX12_undo 24 = .ok (.if_icmp .ge 29, 3) := by decide +kernel
theorem dX12_undo_27 : decode cX12_undo 27 = .ok (.aload_n 0, 1) := by decide +kernel
theorem dX12_undo_28 : decode cX12_undo 28 = .ok (.getfield 26, 3) := by decide +kernel
theorem dX12_undo_31 : decode cX12_undo 31 = .ok (.iload_n 1, 1) := by decide +kernel
theorem dX12_undo_32 : decode cX12_undo 32 = .ok (.aload_n 0, 1) := by decide +kernel
theorem dX12_undo_33 : decode cX12_undo 33 = .ok (.getfield 48, 3) := by decide +kernel
theorem dX12_undo_36 : decode cX12_undo 36 = .ok (.bipush 36, 2) := by decide +kernel
theorem dX12_undo_38 : decode cX12_undo 38 = .ok (.aload_n 0, 1) := by decide +kernel
theorem dX12_undo_39 : decode cX12_undo 39 = .ok (.getfield 128, 3) := by decide +kernel
theorem dX12_undo_42 : decode cX12_undo 42 = .ok (.imul, 1) := by decide +kernel
theorem dX12_undo_43 : decode cX12_undo 43 = .ok (.iload_n 1, 1) := by decide +kernel
theorem dX12_undo_44 : decode cX12_undo 44 = .ok (.iadd, 1) := by decide +kernel
theorem dX12_undo_45 : decode cX12_undo 45 = .ok (.laload, 1) := by decide +kernel
theorem dX12_undo_46 : decode cX12_undo 46 = .ok (.lastore, 1) := by decide +kernel
theorem dX12_undo_47 : decode cX12_undo 47 = .ok (.iinc 1 1, 3) := by decide +kernel
theorem dX12_undo_50 : decode cX12_undo 50 = .ok (.goto (-29), 3) := by decide +kernel
theorem dX12_undo_53 : decode cX12_undo 53 = .ok (.iconst 0, 1) := by decide +kernel
theorem dX12_undo_54 : decode cX12_undo 54 = .ok (.istore_n 1, 1) := by decide +kernel
theorem dX12_undo_55 : decode cX12_undo 55 = .ok (.iload_n 1, 1) := by decide +kernel
theorem dX12_undo_56 : decode cX12_undo 56 = .ok (.bipush 12, 2) := by decide +kernel
theorem dX12_undo_58 : decode cX12_undo 58 = .ok (.if_icmp .ge 29, 3) := by decide +kernel
theorem dX12_undo_61 : decode cX12_undo 61 = .ok (.aload_n 0, 1) := by decide +kernel
theorem dX12_undo_62 : decode cX12_undo 62 = .ok (.getfield 29, 3) := by decide +kernel
theorem dX12_undo_65 : decode cX12_undo 65 = .ok (.iload_n 1, 1) := by decide +kernel
theorem dX12_undo_66 : decode cX12_undo 66 = .ok (.aload_n 0, 1) := by decide +kernel
theorem dX12_undo_67 : decode cX12_undo 67 = .ok (.getfield 51, 3) := by decide +kernel
theorem dX12_undo_70 : decode cX12_undo 70 = .ok (.bipush 12, 2) := by decide +kernel
theorem dX12_undo_72 : decode cX12_undo 72 = .ok (.aload_n 0, 1) := by decide +kernel
theorem dX12_undo_73 : decode cX12_undo 73 = .ok (.getfield 128, 3) := by decide +kernel
theorem dX12_undo_76 : decode cX12_undo 76 = .ok (.imul, 1) := by decide +kernel
theorem dX12_undo_77 : decode cX12_undo 77 = .ok (.iload_n 1, 1) := by decide +kernel
theorem dX12_undo_78 : decode cX12_undo 78 = .ok (.iadd, 1) := by decide +kernel
theorem dX12_undo_79 : decode cX12_undo 79 = .ok (.baload, 1) := by decide +kernel
theorem dX12_undo_80 : decode cX12_undo 80 = .ok (.bastore, 1) := by decide +kernel
theorem dX12_undo_81 : decode cX12_undo 81 = .ok (.iinc 1 1, 3) := by decide +kernel
theorem dX12_undo_84 : decode cX12_undo 84 = .ok (.goto (-29), 3) := by decide +kernel
theorem dX12_undo_87 : decode cX12_undo 87 = .ok (.aload_n 0, 1) := by decide +kernel
theorem dX12_undo_88 : decode cX12_undo 88 = .ok (.aload_n 0, 1) := by decide +kernel
theorem dX12_undo_89 : decode cX12_undo 89 = .ok (.getfield 54, 3) := by decide +kernel
theorem dX12_undo_92 : decode cX12_undo 92 = .ok (.aload_n 0, 1) := by decide +kernel
theorem dX12_undo_93 : decode cX12_undo 93 = .ok (.getfield 128, 3) := by decide +kernel
theorem dX12_undo_96 : decode cX12_undo 96 = .ok (.laload, 1) := by decide +kernel
theorem dX12_undo_97 : decode cX12_undo 97 = .ok (.putfield 182, 3) := by decide +kernel
theorem dX12_undo_100 : decode cX12_undo 100 = .ok (.aload_n 0, 1) := by decide +kernel
theorem dX12_undo_101 : decode cX12_undo 101 = .ok (.aload_n 0, 1) := by decide +kernel
theorem dX12_undo_102 : decode cX12_undo 102 = .ok (.getfield 57, 3) := by decide +kernel
theorem dX12_undo_105 : decode cX12_undo 105 = .ok (.aload_n 0, 1) := by decide +kernel
theorem dX12_undo_106 : decode cX12_undo 106 = .ok (.getfield 128, 3) := by decide +kernel
theorem dX12_undo_109 : decode cX12_undo 109 = .ok (.iaload, 1) := by decide +kernel
theorem dX12_undo_110 : decode cX12_undo 110 = .ok (.putfield 175, 3) := by decide +kernel
theorem dX12_undo_113 : decode cX12_undo 113 = .ok (.aload_n 0, 1) := by decide +kernel
theorem dX12_undo_114 : decode cX12_undo 114 = .ok (.getfield 128, 3) := by decide +kernel
theorem dX12_undo_117 : decode cX12_undo 117 = .ok (.ireturn, 1) := by decide +kernel
theorem dX12_failed_0 : decode cX12_failed 0 = .ok (.iload_n 1, 1) := by decide +kernel
theorem dX12_failed_1 : decode cX12_failed 1 = .ok (.iconst 0, 1) := by decide +kernel
theorem dX12_failed_2 : decode cX12_failed 2 = .ok (.iconst 4, 1) := by decide +kernel
theorem dX12_failed_3 : decode cX12_failed 3 = .ok (.invokestatic 112, 3) := by decide +kernel
theorem dX12_failed_6 : decode cX12_failed 6 = .ok (.ifCond .eq 12, 3) := by decide +kernel
theorem dX12_failed_9 : decode cX12_failed 9 = .ok (.aload_n 0, 1) := by decide +kernel
theorem dX12_failed_10 : decode cX12_failed 10 = .ok (.getfield 45, 3) := by decide +kernel
theorem dX12_failed_13 : decode cX12_failed 13 = .ok (.iload_n 1, 1) := by decide +kernel
theorem dX12_failed_14 : decode cX12_failed 14 = .ok (.iaload, 1) := by decide +kernel
theorem dX12_failed_15 : decode cX12_failed 15 = .ok (.goto 5, 3) := by decide +kernel
theorem dX12_failed_18 : decode cX12_failed 18 = .ok (.bipush (-102), 2) := by decide +kernel
theorem dX12_failed_20 : decode cX12_failed 20 = .ok (.ireturn, 1) := by decide +kernel
theorem dX12_why_0 : decode cX12_why 0 = .ok (.aload_n 0, 1) := by decide +kernel
theorem dX12_why_1 : decode cX12_why 1 = .ok (.getfield 267, 3) := by decide +kernel
theorem dX12_why_4 : decode cX12_why 4 = .ok (.ireturn, 1) := by decide +kernel
theorem dX12_state_0 : decode cX12_state 0 = .ok (.aload_n 0, 1) := by decide +kernel
theorem dX12_state_1 : decode cX12_state 1 = .ok (.iload_n 1, 1) := by decide +kernel
theorem dX12_state_2 : decode cX12_state 2 = .ok (.invokevirtual 131, 3) := by decide +kernel
theorem dX12_state_5 : decode cX12_state 5 = .ok (.ifCond .ne 9, 3) := by decide +kernel
theorem dX12_state_8 : decode cX12_state 8 = .ok (.ldc2_w 273, 3) := by decide +kernel
theorem dX12_state_11 : decode cX12_state 11 = .ok (.goto 28, 3) := by decide +kernel
theorem dX12_state_14 : decode cX12_state 14 = .ok (.iload_n 2, 1) := by decide +kernel
theorem dX12_state_15 : decode cX12_state 15 = .ok (.iconst 0, 1) := by decide +kernel
theorem dX12_state_16 : decode cX12_state 16 = .ok (.iconst 2, 1) := by decide +kernel
theorem dX12_state_17 : decode cX12_state 17 = .ok (.invokestatic 112, 3) := by decide +kernel
theorem dX12_state_20 : decode cX12_state 20 = .ok (.ifCond .ne 9, 3) := by decide +kernel
theorem dX12_state_23 : decode cX12_state 23 = .ok (.ldc2_w 275, 3) := by decide +kernel
theorem dX12_state_26 : decode cX12_state 26 = .ok (.goto 13, 3) := by decide +kernel
theorem dX12_state_29 : decode cX12_state 29 = .ok (.aload_n 0, 1) := by decide +kernel
theorem dX12_state_30 : decode cX12_state 30 = .ok (.getfield 26, 3) := by decide +kernel
theorem dX12_state_33 : decode cX12_state 33 = .ok (.iconst 3, 1) := by decide +kernel
theorem dX12_state_34 : decode cX12_state 34 = .ok (.iload_n 1, 1) := by decide +kernel
theorem dX12_state_35 : decode cX12_state 35 = .ok (.imul, 1) := by decide +kernel
theorem dX12_state_36 : decode cX12_state 36 = .ok (.iload_n 2, 1) := by decide +kernel
theorem dX12_state_37 : decode cX12_state 37 = .ok (.iadd, 1) := by decide +kernel
theorem dX12_state_38 : decode cX12_state 38 = .ok (.laload, 1) := by decide +kernel
theorem dX12_state_39 : decode cX12_state 39 = .ok (.lreturn, 1) := by decide +kernel
theorem dX12_whole_0 : decode cX12_whole 0 = .ok (.aload_n 0, 1) := by decide +kernel
theorem dX12_whole_1 : decode cX12_whole 1 = .ok (.getfield 182, 3) := by decide +kernel
theorem dX12_whole_4 : decode cX12_whole 4 = .ok (.lreturn, 1) := by decide +kernel
theorem dX12_awake_0 : decode cX12_awake 0 = .ok (.aload_n 0, 1) := by decide +kernel
theorem dX12_awake_1 : decode cX12_awake 1 = .ok (.iload_n 1, 1) := by decide +kernel
theorem dX12_awake_2 : decode cX12_awake 2 = .ok (.invokevirtual 131, 3) := by decide +kernel
theorem dX12_awake_5 : decode cX12_awake 5 = .ok (.ifCond .ne 8, 3) := by decide +kernel
theorem dX12_awake_8 : decode cX12_awake 8 = .ok (.bipush (-101), 2) := by decide +kernel
theorem dX12_awake_10 : decode cX12_awake 10 = .ok (.goto 17, 3) := by decide +kernel
theorem dX12_awake_13 : decode cX12_awake 13 = .ok (.aload_n 0, 1) := by decide +kernel
theorem dX12_awake_14 : decode cX12_awake 14 = .ok (.getfield 29, 3) := by decide +kernel
theorem dX12_awake_17 : decode cX12_awake 17 = .ok (.iload_n 1, 1) := by decide +kernel
theorem dX12_awake_18 : decode cX12_awake 18 = .ok (.baload, 1) := by decide +kernel
theorem dX12_awake_19 : decode cX12_awake 19 = .ok (.ifCond .eq 7, 3) := by decide +kernel
theorem dX12_awake_22 : decode cX12_awake 22 = .ok (.iconst 1, 1) := by decide +kernel
theorem dX12_awake_23 : decode cX12_awake 23 = .ok (.goto 4, 3) := by decide +kernel
theorem dX12_awake_26 : decode cX12_awake 26 = .ok (.iconst 0, 1) := by decide +kernel
theorem dX12_awake_27 : decode cX12_awake 27 = .ok (.ireturn, 1) := by decide +kernel
theorem dX12_along_0 : decode cX12_along 0 = .ok (.iload_n 1, 1) := by decide +kernel
theorem dX12_along_1 : decode cX12_along 1 = .ok (.iconst 0, 1) := by decide +kernel
theorem dX12_along_2 : decode cX12_along 2 = .ok (.aload_n 0, 1) := by decide +kernel
theorem dX12_along_3 : decode cX12_along 3 = .ok (.getfield 246, 3) := by decide +kernel
theorem dX12_along_6 : decode cX12_along 6 = .ok (.iconst 1, 1) := by decide +kernel
theorem dX12_along_7 : decode cX12_along 7 = .ok (.isub, 1) := by decide +kernel
theorem dX12_along_8 : decode cX12_along 8 = .ok (.invokestatic 112, 3) := by decide +kernel
theorem dX12_along_11 : decode cX12_along 11 = .ok (.ifCond .eq 12, 3) := by decide +kernel
theorem dX12_along_14 : decode cX12_along 14 = .ok (.aload_n 0, 1) := by decide +kernel
theorem dX12_along_15 : decode cX12_along 15 = .ok (.getfield 60, 3) := by decide +kernel
theorem dX12_along_18 : decode cX12_along 18 = .ok (.iload_n 1, 1) := by decide +kernel
theorem dX12_along_19 : decode cX12_along 19 = .ok (.iaload, 1) := by decide +kernel
theorem dX12_along_20 : decode cX12_along 20 = .ok (.goto 5, 3) := by decide +kernel
theorem dX12_along_23 : decode cX12_along 23 = .ok (.bipush (-102), 2) := by decide +kernel
theorem dX12_along_25 : decode cX12_along 25 = .ok (.ireturn, 1) := by decide +kernel
theorem dX12_message_0 : decode cX12_message 0 = .ok (.iload_n 1, 1) := by decide +kernel
theorem dX12_message_1 : decode cX12_message 1 = .ok (.iconst 0, 1) := by decide +kernel
theorem dX12_message_2 : decode cX12_message 2 = .ok (.aload_n 0, 1) := by decide +kernel
theorem dX12_message_3 : decode cX12_message 3 = .ok (.getfield 246, 3) := by decide +kernel
theorem dX12_message_6 : decode cX12_message 6 = .ok (.iconst 1, 1) := by decide +kernel
theorem dX12_message_7 : decode cX12_message 7 = .ok (.isub, 1) := by decide +kernel
theorem dX12_message_8 : decode cX12_message 8 = .ok (.invokestatic 112, 3) := by decide +kernel
theorem dX12_message_11 : decode cX12_message 11 = .ok (.ifCond .eq 12, 3) := by decide +kernel
theorem dX12_message_14 : decode cX12_message 14 = .ok (.aload_n 0, 1) := by decide +kernel
theorem dX12_message_15 : decode cX12_message 15 = .ok (.getfield 63, 3) := by decide +kernel
theorem dX12_message_18 : decode cX12_message 18 = .ok (.iload_n 1, 1) := by decide +kernel
theorem dX12_message_19 : decode cX12_message 19 = .ok (.laload, 1) := by decide +kernel
theorem dX12_message_20 : decode cX12_message 20 = .ok (.goto 6, 3) := by decide +kernel
theorem dX12_message_23 : decode cX12_message 23 = .ok (.ldc2_w 275, 3) := by decide +kernel
theorem dX12_message_26 : decode cX12_message 26 = .ok (.lreturn, 1) := by decide +kernel
theorem dX12_count_0 : decode cX12_count 0 = .ok (.iconst 0, 1) := by decide +kernel
theorem dX12_count_1 : decode cX12_count 1 = .ok (.istore_n 2, 1) := by decide +kernel
theorem dX12_count_2 : decode cX12_count 2 = .ok (.iconst 0, 1) := by decide +kernel
theorem dX12_count_3 : decode cX12_count 3 = .ok (.istore_n 3, 1) := by decide +kernel
theorem dX12_count_4 : decode cX12_count 4 = .ok (.iload_n 3, 1) := by decide +kernel
theorem dX12_count_5 : decode cX12_count 5 = .ok (.aload_n 0, 1) := by decide +kernel
theorem dX12_count_6 : decode cX12_count 6 = .ok (.getfield 116, 3) := by decide +kernel
theorem dX12_count_9 : decode cX12_count 9 = .ok (.if_icmp .ge 26, 3) := by decide +kernel
theorem dX12_count_12 : decode cX12_count 12 = .ok (.iload_n 2, 1) := by decide +kernel
theorem dX12_count_13 : decode cX12_count 13 = .ok (.aload_n 0, 1) := by decide +kernel
theorem dX12_count_14 : decode cX12_count 14 = .ok (.getfield 29, 3) := by decide +kernel
theorem dX12_count_17 : decode cX12_count 17 = .ok (.iload_n 3, 1) := by decide +kernel
theorem dX12_count_18 : decode cX12_count 18 = .ok (.baload, 1) := by decide +kernel
theorem dX12_count_19 : decode cX12_count 19 = .ok (.ifCond .eq 7, 3) := by decide +kernel
theorem dX12_count_22 : decode cX12_count 22 = .ok (.iconst 1, 1) := by decide +kernel
theorem dX12_count_23 : decode cX12_count 23 = .ok (.goto 4, 3) := by decide +kernel
theorem dX12_count_26 : decode cX12_count 26 = .ok (.iconst 0, 1) := by decide +kernel
theorem dX12_count_27 : decode cX12_count 27 = .ok (.iadd, 1) := by decide +kernel
theorem dX12_count_28 : decode cX12_count 28 = .ok (.istore_n 2, 1) := by decide +kernel
theorem dX12_count_29 : decode cX12_count 29 = .ok (.iinc 3 1, 3) := by decide +kernel
theorem dX12_count_32 : decode cX12_count 32 = .ok (.goto (-28), 3) := by decide +kernel
theorem dX12_count_35 : decode cX12_count 35 = .ok (.iload_n 1, 1) := by decide +kernel
theorem dX12_count_36 : decode cX12_count 36 = .ok (.tableswitch 85 0 7 #[48, 53, 58, 63, 68, 70, 75, 80], 48) := by decide +kernel
theorem dX12_count_84 : decode cX12_count 84 = .ok (.aload_n 0, 1) := by decide +kernel
theorem dX12_count_85 : decode cX12_count 85 = .ok (.getfield 108, 3) := by decide +kernel
theorem dX12_count_88 : decode cX12_count 88 = .ok (.ireturn, 1) := by decide +kernel
theorem dX12_count_89 : decode cX12_count 89 = .ok (.aload_n 0, 1) := by decide +kernel
theorem dX12_count_90 : decode cX12_count 90 = .ok (.getfield 116, 3) := by decide +kernel
theorem dX12_count_93 : decode cX12_count 93 = .ok (.ireturn, 1) := by decide +kernel
theorem dX12_count_94 : decode cX12_count 94 = .ok (.aload_n 0, 1) := by decide +kernel
theorem dX12_count_95 : decode cX12_count 95 = .ok (.getfield 119, 3) := by decide +kernel
theorem dX12_count_98 : decode cX12_count 98 = .ok (.ireturn, 1) := by decide +kernel
theorem dX12_count_99 : decode cX12_count 99 = .ok (.aload_n 0, 1) := by decide +kernel
theorem dX12_count_100 : decode cX12_count 100 = .ok (.getfield 175, 3) := by decide +kernel
theorem dX12_count_103 : decode cX12_count 103 = .ok (.ireturn, 1) := by decide +kernel
theorem dX12_count_104 : decode cX12_count 104 = .ok (.iload_n 2, 1) := by decide +kernel
theorem dX12_count_105 : decode cX12_count 105 = .ok (.ireturn, 1) := by decide +kernel
theorem dX12_count_106 : decode cX12_count 106 = .ok (.aload_n 0, 1) := by decide +kernel
theorem dX12_count_107 : decode cX12_count 107 = .ok (.getfield 162, 3) := by decide +kernel
theorem dX12_count_110 : decode cX12_count 110 = .ok (.ireturn, 1) := by decide +kernel
theorem dX12_count_111 : decode cX12_count 111 = .ok (.aload_n 0, 1) := by decide +kernel
theorem dX12_count_112 : decode cX12_count 112 = .ok (.getfield 246, 3) := by decide +kernel
theorem dX12_count_115 : decode cX12_count 115 = .ok (.ireturn, 1) := by decide +kernel
theorem dX12_count_116 : decode cX12_count 116 = .ok (.aload_n 0, 1) := by decide +kernel
theorem dX12_count_117 : decode cX12_count 117 = .ok (.getfield 128, 3) := by decide +kernel
theorem dX12_count_120 : decode cX12_count 120 = .ok (.ireturn, 1) := by decide +kernel
theorem dX12_count_121 : decode cX12_count 121 = .ok (.bipush (-102), 2) := by decide +kernel
theorem dX12_count_123 : decode cX12_count 123 = .ok (.ireturn, 1) := by decide +kernel
def rm_rX12_asBefore : Room := { frames := 0, cells := 0, slots := 0, locals := 0 }
def G_rX12_asBefore_b28 (p : Program) (l : Launch) (e : Env) (s : State) (m : MethodId) (args : Array Value) (below : List Frame) (meth : Method) (c : Code) (dC : Nat → ClassId) (dI : Nat → Nat → Nat) (kA : Nat → ClassId) (ad : Nat → Nat) (res : RS) (F : RS → Int32 → Option (RS)) : Prop := ∀ (σ : RS) (x1 : Int32), F σ x1 = some res → ∀ (H : Heap) (locs : List Loc) (ls : Array Slot), va_P (dC, dI) vwCl (r_w kA ad σ) H → va_S (jw_A 32 ad) s.heap H locs → lv_has ls 2 [(0, .ref (ad 0)), (1, .int x1)] → W p l e rm_rX12_asBefore s m args below meth c H locs 0 0 (r_Qu below dC dI kA ad args s res) (F0 m 28 ls [])
def G_rX12_asBefore_b26 (p : Program) (l : Launch) (e : Env) (s : State) (m : MethodId) (args : Array Value) (below : List Frame) (meth : Method) (c : Code) (dC : Nat → ClassId) (dI : Nat → Nat → Nat) (kA : Nat → ClassId) (ad : Nat → Nat) (res : RS) (F : RS → Option (RS)) : Prop := ∀ (σ : RS), F σ = some res → ∀ (H : Heap) (locs : List Loc) (ls : Array Slot), va_P (dC, dI) vwCl (r_w kA ad σ) H → va_S (jw_A 32 ad) s.heap H locs → lv_has ls 2 [(0, .ref (ad 0))] → W p l e rm_rX12_asBefore s m args below meth c H locs 0 0 (r_Qu below dC dI kA ad args s res) (F0 m 26 ls [])
def G_rX12_asBefore_b2 (p : Program) (l : Launch) (e : Env) (s : State) (m : MethodId) (args : Array Value) (below : List Frame) (meth : Method) (c : Code) (dC : Nat → ClassId) (dI : Nat → Nat → Nat) (kA : Nat → ClassId) (ad : Nat → Nat) (res : RS) (F : RS → Int32 → Option (RS)) : Prop := ∀ (σ : RS) (x1 : Int32), F σ x1 = some res → ∀ (H : Heap) (locs : List Loc) (ls : Array Slot), va_P (dC, dI) vwCl (r_w kA ad σ) H → va_S (jw_A 32 ad) s.heap H locs → lv_has ls 2 [(0, .ref (ad 0)), (1, .int x1)] → W p l e rm_rX12_asBefore s m args below meth c H locs 0 0 (r_Qu below dC dI kA ad args s res) (F0 m 2 ls [])
def G_rX12_asBefore (p : Program) (l : Launch) (e : Env) (s : State) (m : MethodId) (args : Array Value) (below : List Frame) (meth : Method) (c : Code) (dC : Nat → ClassId) (dI : Nat → Nat → Nat) (kA : Nat → ClassId) (ad : Nat → Nat) (res : RS) (F : RS → Option (RS)) : Prop := ∀ (σ : RS), F σ = some res → ∀ (H : Heap) (locs : List Loc) (ls : Array Slot), va_P (dC, dI) vwCl (r_w kA ad σ) H → va_S (jw_A 32 ad) s.heap H locs → lv_has ls 2 [(0, .ref (ad 0))] → W p l e rm_rX12_asBefore s m args below meth c H locs 0 0 (r_Qu below dC dI kA ad args s res) (F0 m 0 ls [])
def s_rX12_asBefore_b28 (k28 : RS → Int32 → Option (RS)) (σ : RS) (x1 : Int32) : Option (RS) := if 12 ≤ x1 then some σ else (kn_ld (rg_A σ 17) 12 x1 (fun v1 => kn_st (rs_A σ 4 (upd (rg_A σ 4) x1.toNatClampNeg (vp_nar .boolean v1))) 12 x1 (fun σ2 => kn_v (x1 + 1) (fun v3 => k28 σ2 v3))))
set_option maxRecDepth 100000 in
set_option maxHeartbeats 4000000 in
theorem p_rX12_asBefore_b28 {p : Program} {l : Launch} {e : Env} {s : State} {m : MethodId} {args : Array Value} {below : List Frame} {meth : Method} {c : Code} {dC : Nat → ClassId} {dI : Nat → Nat → Nat} {kA : Nat → ClassId} {ad : Nat → Nat} (C : jxc cX12_asBefore none 2 RX12 p s m args meth c dC dI kA) (hap : jw_ap 32 ad) {res : RS} {k28 : RS → Int32 → Option (RS)} (hk28 : G_rX12_asBefore_b28 p l e s m args below meth c dC dI kA ad res k28) : G_rX12_asBefore_b28 p l e s m args below meth c dC dI kA ad res (s_rX12_asBefore_b28 k28) := by
  obtain ⟨hx, hb, hml, hown, hts, hr, hlocks, hK, hN⟩ := id C
  intro σ x1 hf H locs ls hP hS hl
  unfold s_rX12_asBefore_b28 at hf
  refine lv_iload_n hx hb dX12_asBefore_28 rfl (lv_at hl 1 rfl) ?_
  refine lv_bipush (v := 12) hx hb dX12_asBefore_29 (by decide) ?_
  refine jc_ge (tgt := 52) hx hb hf dX12_asBefore_31 (by decide) (fun hf => ?_) (fun hf => ?_)
  · exact jr_u hx hb hr hlocks hf hP hS dX12_asBefore_52
  · refine lv_aload_n hx hb dX12_asBefore_34 rfl (lv_at hl 0 rfl) ?_
    refine r_gX12_awake hx hb hts hown hK hP (hts _ kw_767) dX12_asBefore_35 ?_
    refine lv_iload_n hx hb dX12_asBefore_38 rfl (lv_at hl 1 rfl) ?_
    refine lv_aload_n hx hb dX12_asBefore_39 rfl (lv_at hl 0 rfl) ?_
    refine r_gX12_beforeAwake hx hb hts hown hK hP (hts _ kw_807) dX12_asBefore_40 ?_
    refine lv_iload_n hx hb dX12_asBefore_43 rfl (lv_at hl 1 rfl) ?_
    refine ja_zld hx hb hK hP 28 2 rfl rfl hf dX12_asBefore_44 (fun v1 hf => ?_)
    refine ja_zst hx hb hK (r_D hap σ) hP hS 7 2 rfl rfl rfl r_sA4 hf dX12_asBefore_45 (fun σ2 H locs hP hS hf => ?_)
    obtain ⟨v3, e_v3, hf⟩ := kn_v_e hf
    refine lv_iinc (v := v3) (lv' := [(1, .int v3), (0, .ref (ad 0))]) hx hb dX12_asBefore_46 hl (k := 1) rfl e_v3 (by decide) rfl (fun ls hl => ?_)
    refine lv_goto (tgt := 28) hx hb dX12_asBefore_49 (by decide) ?_
    exact hk28 σ2 v3 hf H locs ls hP hS (lv_sub hl [1, 0] rfl)
def f_rX12_asBefore_b28 : RS → Int32 → Option (RS) := kn_fix (fun _ _ => none) (s_rX12_asBefore_b28) FU
theorem q_rX12_asBefore_b28 {p : Program} {l : Launch} {e : Env} {s : State} {m : MethodId} {args : Array Value} {below : List Frame} {meth : Method} {c : Code} {dC : Nat → ClassId} {dI : Nat → Nat → Nat} {kA : Nat → ClassId} {ad : Nat → Nat} (C : jxc cX12_asBefore none 2 RX12 p s m args meth c dC dI kA) (hap : jw_ap 32 ad) {res : RS} : G_rX12_asBefore_b28 p l e s m args below meth c dC dI kA ad res (f_rX12_asBefore_b28) := kn_fix_ind (G := fun F => G_rX12_asBefore_b28 p l e s m args below meth c dC dI kA ad res F) (fun _ _ hf => by cases hf) (fun k28 hk28 => p_rX12_asBefore_b28 C hap hk28) FU
def s_rX12_asBefore_b26 (σ : RS) : Option (RS) := f_rX12_asBefore_b28 σ 0
set_option maxRecDepth 100000 in
set_option maxHeartbeats 4000000 in
theorem p_rX12_asBefore_b26 {p : Program} {l : Launch} {e : Env} {s : State} {m : MethodId} {args : Array Value} {below : List Frame} {meth : Method} {c : Code} {dC : Nat → ClassId} {dI : Nat → Nat → Nat} {kA : Nat → ClassId} {ad : Nat → Nat} (C : jxc cX12_asBefore none 2 RX12 p s m args meth c dC dI kA) (hap : jw_ap 32 ad) {res : RS} : G_rX12_asBefore_b26 p l e s m args below meth c dC dI kA ad res (s_rX12_asBefore_b26) := by
  obtain ⟨hx, hb, hml, hown, hts, hr, hlocks, hK, hN⟩ := id C
  intro σ hf H locs ls hP hS hl
  unfold s_rX12_asBefore_b26 at hf
  refine lv_iconst (v := 0) hx hb dX12_asBefore_26 (by decide) ?_
  refine lv_istore_n (lv' := [(1, .int 0), (0, .ref (ad 0))]) hx hb dX12_asBefore_27 rfl hl (by decide) rfl (fun ls hl => ?_)
  exact (q_rX12_asBefore_b28 C hap) σ 0 hf H locs ls hP hS (lv_sub hl [1, 0] rfl)
def s_rX12_asBefore_b2 (k2 : RS → Int32 → Option (RS)) (σ : RS) (x1 : Int32) : Option (RS) := if 36 ≤ x1 then (s_rX12_asBefore_b26 σ) else (kn_ld (rg_B σ 9) 36 x1 (fun v1 => kn_st (rs_B σ 1 (vp_updL (rg_B σ 1) x1.toNatClampNeg v1)) 36 x1 (fun σ2 => kn_v (x1 + 1) (fun v3 => k2 σ2 v3))))
set_option maxRecDepth 100000 in
set_option maxHeartbeats 4000000 in
theorem p_rX12_asBefore_b2 {p : Program} {l : Launch} {e : Env} {s : State} {m : MethodId} {args : Array Value} {below : List Frame} {meth : Method} {c : Code} {dC : Nat → ClassId} {dI : Nat → Nat → Nat} {kA : Nat → ClassId} {ad : Nat → Nat} (C : jxc cX12_asBefore none 2 RX12 p s m args meth c dC dI kA) (hap : jw_ap 32 ad) {res : RS} {k2 : RS → Int32 → Option (RS)} (hk2 : G_rX12_asBefore_b2 p l e s m args below meth c dC dI kA ad res k2) : G_rX12_asBefore_b2 p l e s m args below meth c dC dI kA ad res (s_rX12_asBefore_b2 k2) := by
  obtain ⟨hx, hb, hml, hown, hts, hr, hlocks, hK, hN⟩ := id C
  intro σ x1 hf H locs ls hP hS hl
  unfold s_rX12_asBefore_b2 at hf
  refine lv_iload_n hx hb dX12_asBefore_2 rfl (lv_at hl 1 rfl) ?_
  refine lv_bipush (v := 36) hx hb dX12_asBefore_3 (by decide) ?_
  refine jc_ge (tgt := 26) hx hb hf dX12_asBefore_5 (by decide) (fun hf => ?_) (fun hf => ?_)
  · exact (p_rX12_asBefore_b26 C hap) σ hf H locs ls hP hS (lv_sub hl [0] rfl)
  · refine lv_aload_n hx hb dX12_asBefore_8 rfl (lv_at hl 0 rfl) ?_
    refine r_gX12_states hx hb hts hown hK hP (hts _ kw_766) dX12_asBefore_9 ?_
    refine lv_iload_n hx hb dX12_asBefore_12 rfl (lv_at hl 1 rfl) ?_
    refine lv_aload_n hx hb dX12_asBefore_13 rfl (lv_at hl 0 rfl) ?_
    refine r_gX12_beforeStates hx hb hts hown hK hP (hts _ kw_806) dX12_asBefore_14 ?_
    refine lv_iload_n hx hb dX12_asBefore_17 rfl (lv_at hl 1 rfl) ?_
    refine ja_lld hx hb hK hP 27 1 rfl rfl hf dX12_asBefore_18 (fun v1 hf => ?_)
    refine ja_lst hx hb hK (r_D hap σ) hP hS 6 1 rfl rfl r_sB1 hf dX12_asBefore_19 (fun σ2 H locs hP hS hf => ?_)
    obtain ⟨v3, e_v3, hf⟩ := kn_v_e hf
    refine lv_iinc (v := v3) (lv' := [(1, .int v3), (0, .ref (ad 0))]) hx hb dX12_asBefore_20 hl (k := 1) rfl e_v3 (by decide) rfl (fun ls hl => ?_)
    refine lv_goto (tgt := 2) hx hb dX12_asBefore_23 (by decide) ?_
    exact hk2 σ2 v3 hf H locs ls hP hS (lv_sub hl [1, 0] rfl)
def f_rX12_asBefore_b2 : RS → Int32 → Option (RS) := kn_fix (fun _ _ => none) (s_rX12_asBefore_b2) FU
theorem q_rX12_asBefore_b2 {p : Program} {l : Launch} {e : Env} {s : State} {m : MethodId} {args : Array Value} {below : List Frame} {meth : Method} {c : Code} {dC : Nat → ClassId} {dI : Nat → Nat → Nat} {kA : Nat → ClassId} {ad : Nat → Nat} (C : jxc cX12_asBefore none 2 RX12 p s m args meth c dC dI kA) (hap : jw_ap 32 ad) {res : RS} : G_rX12_asBefore_b2 p l e s m args below meth c dC dI kA ad res (f_rX12_asBefore_b2) := kn_fix_ind (G := fun F => G_rX12_asBefore_b2 p l e s m args below meth c dC dI kA ad res F) (fun _ _ hf => by cases hf) (fun k2 hk2 => p_rX12_asBefore_b2 C hap hk2) FU
def s_rX12_asBefore (σ : RS) : Option (RS) := f_rX12_asBefore_b2 σ 0
set_option maxRecDepth 100000 in
set_option maxHeartbeats 4000000 in
theorem p_rX12_asBefore {p : Program} {l : Launch} {e : Env} {s : State} {m : MethodId} {args : Array Value} {below : List Frame} {meth : Method} {c : Code} {dC : Nat → ClassId} {dI : Nat → Nat → Nat} {kA : Nat → ClassId} {ad : Nat → Nat} (C : jxc cX12_asBefore none 2 RX12 p s m args meth c dC dI kA) (hap : jw_ap 32 ad) {res : RS} : G_rX12_asBefore p l e s m args below meth c dC dI kA ad res (s_rX12_asBefore) := by
  obtain ⟨hx, hb, hml, hown, hts, hr, hlocks, hK, hN⟩ := id C
  intro σ hf H locs ls hP hS hl
  unfold s_rX12_asBefore at hf
  refine lv_iconst (v := 0) hx hb dX12_asBefore_0 (by decide) ?_
  refine lv_istore_n (lv' := [(1, .int 0), (0, .ref (ad 0))]) hx hb dX12_asBefore_1 rfl hl (by decide) rfl (fun ls hl => ?_)
  exact (q_rX12_asBefore_b2 C hap) σ 0 hf H locs ls hP hS (lv_sub hl [1, 0] rfl)
theorem c_rX12_asBefore (l : Launch) {dC : Nat → ClassId} {dI : Nat → Nat → Nat} {kA : Nat → ClassId} {ad : Nat → Nat} (hap : jw_ap 32 ad) (σ : RS) (res : RS) (hf : s_rX12_asBefore σ = some res) : jm_u l KW NW (dC, dI) vwCl (jtys kA) (jw_A 32 ad) (r_w kA ad) yX12_asBefore cX12_asBefore 2 (rm_rX12_asBefore) [.ref (ad 0)] σ res := jm_u_of (by decide) (Nat.le_of_ble_eq_true rfl) (fun p e s m below meth c C hP hS ls hl => p_rX12_asBefore C hap σ hf s.heap [] ls hP hS hl)

def rm_rX12_isAnyAwake : Room := { frames := 0, cells := 0, slots := 0, locals := 0 }
def G_rX12_isAnyAwake_b30 (p : Program) (l : Launch) (e : Env) (s : State) (m : MethodId) (args : Array Value) (below : List Frame) (meth : Method) (c : Code) (dC : Nat → ClassId) (dI : Nat → Nat → Nat) (kA : Nat → ClassId) (ad : Nat → Nat) (res : Int32 × RS) (F : RS → Int32 → Int32 → Option (Int32 × RS)) : Prop := ∀ (σ : RS) (x2 : Int32) (s0 : Int32), F σ x2 s0 = some res → ∀ (H : Heap) (locs : List Loc) (ls : Array Slot), va_P (dC, dI) vwCl (r_w kA ad σ) H → va_S (jw_A 32 ad) s.heap H locs → lv_has ls 3 [(0, .ref (ad 0)), (2, .int x2)] → W p l e rm_rX12_isAnyAwake s m args below meth c H locs 0 0 (r_Qi below dC dI kA ad args s res) (F0 m 30 ls [.int s0])
def G_rX12_isAnyAwake_b25 (p : Program) (l : Launch) (e : Env) (s : State) (m : MethodId) (args : Array Value) (below : List Frame) (meth : Method) (c : Code) (dC : Nat → ClassId) (dI : Nat → Nat → Nat) (kA : Nat → ClassId) (ad : Nat → Nat) (res : Int32 × RS) (F : RS → Int32 → Option (Int32 × RS)) : Prop := ∀ (σ : RS) (x2 : Int32), F σ x2 = some res → ∀ (H : Heap) (locs : List Loc) (ls : Array Slot), va_P (dC, dI) vwCl (r_w kA ad σ) H → va_S (jw_A 32 ad) s.heap H locs → lv_has ls 3 [(0, .ref (ad 0)), (2, .int x2)] → W p l e rm_rX12_isAnyAwake s m args below meth c H locs 0 0 (r_Qi below dC dI kA ad args s res) (F0 m 25 ls [])
def G_rX12_isAnyAwake_b4 (p : Program) (l : Launch) (e : Env) (s : State) (m : MethodId) (args : Array Value) (below : List Frame) (meth : Method) (c : Code) (dC : Nat → ClassId) (dI : Nat → Nat → Nat) (kA : Nat → ClassId) (ad : Nat → Nat) (res : Int32 × RS) (F : RS → Int32 → Int32 → Option (Int32 × RS)) : Prop := ∀ (σ : RS) (x1 : Int32) (x2 : Int32), F σ x1 x2 = some res → ∀ (H : Heap) (locs : List Loc) (ls : Array Slot), va_P (dC, dI) vwCl (r_w kA ad σ) H → va_S (jw_A 32 ad) s.heap H locs → lv_has ls 3 [(0, .ref (ad 0)), (1, .int x1), (2, .int x2)] → W p l e rm_rX12_isAnyAwake s m args below meth c H locs 0 0 (r_Qi below dC dI kA ad args s res) (F0 m 4 ls [])
def G_rX12_isAnyAwake (p : Program) (l : Launch) (e : Env) (s : State) (m : MethodId) (args : Array Value) (below : List Frame) (meth : Method) (c : Code) (dC : Nat → ClassId) (dI : Nat → Nat → Nat) (kA : Nat → ClassId) (ad : Nat → Nat) (res : Int32 × RS) (F : RS → Option (Int32 × RS)) : Prop := ∀ (σ : RS), F σ = some res → ∀ (H : Heap) (locs : List Loc) (ls : Array Slot), va_P (dC, dI) vwCl (r_w kA ad σ) H → va_S (jw_A 32 ad) s.heap H locs → lv_has ls 3 [(0, .ref (ad 0))] → W p l e rm_rX12_isAnyAwake s m args below meth c H locs 0 0 (r_Qi below dC dI kA ad args s res) (F0 m 0 ls [])
def s_rX12_isAnyAwake_b30 (k4 : RS → Int32 → Int32 → Option (Int32 × RS)) (σ : RS) (x2 : Int32) (s0 : Int32) : Option (Int32 × RS) := kn_v (x2 + 1) (fun v1 => k4 σ s0 v1)
set_option maxRecDepth 100000 in
set_option maxHeartbeats 4000000 in
theorem p_rX12_isAnyAwake_b30 {p : Program} {l : Launch} {e : Env} {s : State} {m : MethodId} {args : Array Value} {below : List Frame} {meth : Method} {c : Code} {dC : Nat → ClassId} {dI : Nat → Nat → Nat} {kA : Nat → ClassId} {ad : Nat → Nat} (C : jxc cX12_isAnyAwake (some .boolean) 3 RX12 p s m args meth c dC dI kA) (hap : jw_ap 32 ad) {res : Int32 × RS} {k4 : RS → Int32 → Int32 → Option (Int32 × RS)} (hk4 : G_rX12_isAnyAwake_b4 p l e s m args below meth c dC dI kA ad res k4) : G_rX12_isAnyAwake_b30 p l e s m args below meth c dC dI kA ad res (s_rX12_isAnyAwake_b30 k4) := by
  obtain ⟨hx, hb, hml, hown, hts, hr, hlocks, hK, hN⟩ := id C
  intro σ x2 s0 hf H locs ls hP hS hl
  unfold s_rX12_isAnyAwake_b30 at hf
  refine lv_istore_n (lv' := [(1, .int s0), (0, .ref (ad 0)), (2, .int x2)]) hx hb dX12_isAnyAwake_30 rfl hl (by decide) rfl (fun ls hl => ?_)
  obtain ⟨v1, e_v1, hf⟩ := kn_v_e hf
  refine lv_iinc (v := v1) (lv' := [(2, .int v1), (1, .int s0), (0, .ref (ad 0))]) hx hb dX12_isAnyAwake_31 hl (k := 2) rfl e_v1 (by decide) rfl (fun ls hl => ?_)
  refine lv_goto (tgt := 4) hx hb dX12_isAnyAwake_34 (by decide) ?_
  exact hk4 σ s0 v1 hf H locs ls hP hS (lv_sub hl [2, 1, 0] rfl)
def s_rX12_isAnyAwake_b25 (k4 : RS → Int32 → Int32 → Option (Int32 × RS)) (σ : RS) (x2 : Int32) : Option (Int32 × RS) := s_rX12_isAnyAwake_b30 k4 σ x2 1
set_option maxRecDepth 100000 in
set_option maxHeartbeats 4000000 in
theorem p_rX12_isAnyAwake_b25 {p : Program} {l : Launch} {e : Env} {s : State} {m : MethodId} {args : Array Value} {below : List Frame} {meth : Method} {c : Code} {dC : Nat → ClassId} {dI : Nat → Nat → Nat} {kA : Nat → ClassId} {ad : Nat → Nat} (C : jxc cX12_isAnyAwake (some .boolean) 3 RX12 p s m args meth c dC dI kA) (hap : jw_ap 32 ad) {res : Int32 × RS} {k4 : RS → Int32 → Int32 → Option (Int32 × RS)} (hk4 : G_rX12_isAnyAwake_b4 p l e s m args below meth c dC dI kA ad res k4) : G_rX12_isAnyAwake_b25 p l e s m args below meth c dC dI kA ad res (s_rX12_isAnyAwake_b25 k4) := by
  obtain ⟨hx, hb, hml, hown, hts, hr, hlocks, hK, hN⟩ := id C
  intro σ x2 hf H locs ls hP hS hl
  unfold s_rX12_isAnyAwake_b25 at hf
  refine lv_iconst (v := 1) hx hb dX12_isAnyAwake_25 (by decide) ?_
  refine lv_goto (tgt := 30) hx hb dX12_isAnyAwake_26 (by decide) ?_
  exact (p_rX12_isAnyAwake_b30 C hap hk4) σ x2 1 hf H locs ls hP hS (lv_sub hl [0, 1] rfl)
def s_rX12_isAnyAwake_b4 (k4 : RS → Int32 → Int32 → Option (Int32 × RS)) (σ : RS) (x1 : Int32) (x2 : Int32) : Option (Int32 × RS) := if (rg_I σ 1) ≤ x2 then (kn_z x1 (some (x1, σ))) else (if x1 = 0 then (kn_ld (rg_A σ 4) 12 x2 (fun v1 => if v1 = 0 then (s_rX12_isAnyAwake_b30 k4 σ x2 0) else (s_rX12_isAnyAwake_b25 k4 σ x2))) else (s_rX12_isAnyAwake_b25 k4 σ x2))
set_option maxRecDepth 100000 in
set_option maxHeartbeats 4000000 in
theorem p_rX12_isAnyAwake_b4 {p : Program} {l : Launch} {e : Env} {s : State} {m : MethodId} {args : Array Value} {below : List Frame} {meth : Method} {c : Code} {dC : Nat → ClassId} {dI : Nat → Nat → Nat} {kA : Nat → ClassId} {ad : Nat → Nat} (C : jxc cX12_isAnyAwake (some .boolean) 3 RX12 p s m args meth c dC dI kA) (hap : jw_ap 32 ad) {res : Int32 × RS} {k4 : RS → Int32 → Int32 → Option (Int32 × RS)} (hk4 : G_rX12_isAnyAwake_b4 p l e s m args below meth c dC dI kA ad res k4) : G_rX12_isAnyAwake_b4 p l e s m args below meth c dC dI kA ad res (s_rX12_isAnyAwake_b4 k4) := by
  obtain ⟨hx, hb, hml, hown, hts, hr, hlocks, hK, hN⟩ := id C
  intro σ x1 x2 hf H locs ls hP hS hl
  unfold s_rX12_isAnyAwake_b4 at hf
  refine lv_iload_n hx hb dX12_isAnyAwake_4 rfl (lv_at hl 2 rfl) ?_
  refine lv_aload_n hx hb dX12_isAnyAwake_5 rfl (lv_at hl 0 rfl) ?_
  refine r_gX12_nodes hx hb hts hown hK hP (hts _ kw_765) dX12_isAnyAwake_6 ?_
  refine jc_ge (tgt := 37) hx hb hf dX12_isAnyAwake_9 (by decide) (fun hf => ?_) (fun hf => ?_)
  · refine lv_iload_n hx hb dX12_isAnyAwake_37 rfl (lv_at hl 1 rfl) ?_
    exact jr_z hx hb hr hlocks hf hP hS dX12_isAnyAwake_38
  · refine lv_iload_n hx hb dX12_isAnyAwake_12 rfl (lv_at hl 1 rfl) ?_
    refine jb_ne (tgt := 25) hx hb hf dX12_isAnyAwake_13 (by decide) (fun hf => ?_) (fun hf => ?_)
    · exact (p_rX12_isAnyAwake_b25 C hap hk4) σ x2 hf H locs ls hP hS (lv_sub hl [0, 2] rfl)
    · refine lv_aload_n hx hb dX12_isAnyAwake_16 rfl (lv_at hl 0 rfl) ?_
      refine r_gX12_awake hx hb hts hown hK hP (hts _ kw_767) dX12_isAnyAwake_17 ?_
      refine lv_iload_n hx hb dX12_isAnyAwake_20 rfl (lv_at hl 2 rfl) ?_
      refine ja_zld hx hb hK hP 7 2 rfl rfl hf dX12_isAnyAwake_21 (fun v1 hf => ?_)
      refine jb_eq (tgt := 29) hx hb hf dX12_isAnyAwake_22 (by decide) (fun hf => ?_) (fun hf => ?_)
      · refine lv_iconst (v := 0) hx hb dX12_isAnyAwake_29 (by decide) ?_
        exact (p_rX12_isAnyAwake_b30 C hap hk4) σ x2 0 hf H locs ls hP hS (lv_sub hl [0, 2] rfl)
      · exact (p_rX12_isAnyAwake_b25 C hap hk4) σ x2 hf H locs ls hP hS (lv_sub hl [0, 2] rfl)
def f_rX12_isAnyAwake_b4 : RS → Int32 → Int32 → Option (Int32 × RS) := kn_fix (fun _ _ _ => none) (s_rX12_isAnyAwake_b4) FU
theorem q_rX12_isAnyAwake_b4 {p : Program} {l : Launch} {e : Env} {s : State} {m : MethodId} {args : Array Value} {below : List Frame} {meth : Method} {c : Code} {dC : Nat → ClassId} {dI : Nat → Nat → Nat} {kA : Nat → ClassId} {ad : Nat → Nat} (C : jxc cX12_isAnyAwake (some .boolean) 3 RX12 p s m args meth c dC dI kA) (hap : jw_ap 32 ad) {res : Int32 × RS} : G_rX12_isAnyAwake_b4 p l e s m args below meth c dC dI kA ad res (f_rX12_isAnyAwake_b4) := kn_fix_ind (G := fun F => G_rX12_isAnyAwake_b4 p l e s m args below meth c dC dI kA ad res F) (fun _ _ _ hf => by cases hf) (fun k4 hk4 => p_rX12_isAnyAwake_b4 C hap hk4) FU
def s_rX12_isAnyAwake (σ : RS) : Option (Int32 × RS) := f_rX12_isAnyAwake_b4 σ 0 0
set_option maxRecDepth 100000 in
set_option maxHeartbeats 4000000 in
theorem p_rX12_isAnyAwake {p : Program} {l : Launch} {e : Env} {s : State} {m : MethodId} {args : Array Value} {below : List Frame} {meth : Method} {c : Code} {dC : Nat → ClassId} {dI : Nat → Nat → Nat} {kA : Nat → ClassId} {ad : Nat → Nat} (C : jxc cX12_isAnyAwake (some .boolean) 3 RX12 p s m args meth c dC dI kA) (hap : jw_ap 32 ad) {res : Int32 × RS} : G_rX12_isAnyAwake p l e s m args below meth c dC dI kA ad res (s_rX12_isAnyAwake) := by
  obtain ⟨hx, hb, hml, hown, hts, hr, hlocks, hK, hN⟩ := id C
  intro σ hf H locs ls hP hS hl
  unfold s_rX12_isAnyAwake at hf
  refine lv_iconst (v := 0) hx hb dX12_isAnyAwake_0 (by decide) ?_
  refine lv_istore_n (lv' := [(1, .int 0), (0, .ref (ad 0))]) hx hb dX12_isAnyAwake_1 rfl hl (by decide) rfl (fun ls hl => ?_)
  refine lv_iconst (v := 0) hx hb dX12_isAnyAwake_2 (by decide) ?_
  refine lv_istore_n (lv' := [(2, .int 0), (1, .int 0), (0, .ref (ad 0))]) hx hb dX12_isAnyAwake_3 rfl hl (by decide) rfl (fun ls hl => ?_)
  exact (q_rX12_isAnyAwake_b4 C hap) σ 0 0 hf H locs ls hP hS (lv_sub hl [2, 1, 0] rfl)
theorem c_rX12_isAnyAwake (l : Launch) {dC : Nat → ClassId} {dI : Nat → Nat → Nat} {kA : Nat → ClassId} {ad : Nat → Nat} (hap : jw_ap 32 ad) (σ : RS) (res : Int32 × RS) (hf : s_rX12_isAnyAwake σ = some res) : jm_i l KW NW (dC, dI) vwCl (jtys kA) (jw_A 32 ad) (r_w kA ad) yX12_isAnyAwake cX12_isAnyAwake 3 .boolean (rm_rX12_isAnyAwake) [.ref (ad 0)] σ res := jm_i_of (by decide) (Nat.le_of_ble_eq_true rfl) (fun p e s m below meth c C hP hS ls hl => p_rX12_isAnyAwake C hap σ hf s.heap [] ls hP hS hl)

def rm_rX12_undo : Room := { frames := 0, cells := 0, slots := 0, locals := 0 }
def G_rX12_undo_b87 (p : Program) (l : Launch) (e : Env) (s : State) (m : MethodId) (args : Array Value) (below : List Frame) (meth : Method) (c : Code) (dC : Nat → ClassId) (dI : Nat → Nat → Nat) (kA : Nat → ClassId) (ad : Nat → Nat) (res : Int32 × RS) (F : RS → Option (Int32 × RS)) : Prop := ∀ (σ : RS), F σ = some res → ∀ (H : Heap) (locs : List Loc) (ls : Array Slot), va_P (dC, dI) vwCl (r_w kA ad σ) H → va_S (jw_A 32 ad) s.heap H locs → lv_has ls 2 [(0, .ref (ad 0))] → W p l e rm_rX12_undo s m args below meth c H locs 0 0 (r_Qi below dC dI kA ad args s res) (F0 m 87 ls [])
def G_rX12_undo_b55 (p : Program) (l : Launch) (e : Env) (s : State) (m : MethodId) (args : Array Value) (below : List Frame) (meth : Method) (c : Code) (dC : Nat → ClassId) (dI : Nat → Nat → Nat) (kA : Nat → ClassId) (ad : Nat → Nat) (res : Int32 × RS) (F : RS → Int32 → Option (Int32 × RS)) : Prop := ∀ (σ : RS) (x1 : Int32), F σ x1 = some res → ∀ (H : Heap) (locs : List Loc) (ls : Array Slot), va_P (dC, dI) vwCl (r_w kA ad σ) H → va_S (jw_A 32 ad) s.heap H locs → lv_has ls 2 [(0, .ref (ad 0)), (1, .int x1)] → W p l e rm_rX12_undo s m args below meth c H locs 0 0 (r_Qi below dC dI kA ad args s res) (F0 m 55 ls [])
def G_rX12_undo_b53 (p : Program) (l : Launch) (e : Env) (s : State) (m : MethodId) (args : Array Value) (below : List Frame) (meth : Method) (c : Code) (dC : Nat → ClassId) (dI : Nat → Nat → Nat) (kA : Nat → ClassId) (ad : Nat → Nat) (res : Int32 × RS) (F : RS → Option (Int32 × RS)) : Prop := ∀ (σ : RS), F σ = some res → ∀ (H : Heap) (locs : List Loc) (ls : Array Slot), va_P (dC, dI) vwCl (r_w kA ad σ) H → va_S (jw_A 32 ad) s.heap H locs → lv_has ls 2 [(0, .ref (ad 0))] → W p l e rm_rX12_undo s m args below meth c H locs 0 0 (r_Qi below dC dI kA ad args s res) (F0 m 53 ls [])
def G_rX12_undo_b21 (p : Program) (l : Launch) (e : Env) (s : State) (m : MethodId) (args : Array Value) (below : List Frame) (meth : Method) (c : Code) (dC : Nat → ClassId) (dI : Nat → Nat → Nat) (kA : Nat → ClassId) (ad : Nat → Nat) (res : Int32 × RS) (F : RS → Int32 → Option (Int32 × RS)) : Prop := ∀ (σ : RS) (x1 : Int32), F σ x1 = some res → ∀ (H : Heap) (locs : List Loc) (ls : Array Slot), va_P (dC, dI) vwCl (r_w kA ad σ) H → va_S (jw_A 32 ad) s.heap H locs → lv_has ls 2 [(0, .ref (ad 0)), (1, .int x1)] → W p l e rm_rX12_undo s m args below meth c H locs 0 0 (r_Qi below dC dI kA ad args s res) (F0 m 21 ls [])
def G_rX12_undo (p : Program) (l : Launch) (e : Env) (s : State) (m : MethodId) (args : Array Value) (below : List Frame) (meth : Method) (c : Code) (dC : Nat → ClassId) (dI : Nat → Nat → Nat) (kA : Nat → ClassId) (ad : Nat → Nat) (res : Int32 × RS) (F : RS → Option (Int32 × RS)) : Prop := ∀ (σ : RS), F σ = some res → ∀ (H : Heap) (locs : List Loc) (ls : Array Slot), va_P (dC, dI) vwCl (r_w kA ad σ) H → va_S (jw_A 32 ad) s.heap H locs → lv_has ls 2 [(0, .ref (ad 0))] → W p l e rm_rX12_undo s m args below meth c H locs 0 0 (r_Qi below dC dI kA ad args s res) (F0 m 0 ls [])
def s_rX12_undo_b87 (σ : RS) : Option (Int32 × RS) := kn_ld (rg_B σ 4) 6 (rg_I σ 7) (fun v1 => kn_v (rs_L σ 0 v1) (fun σ2 => kn_ld (rg_A σ2 10) 6 (rg_I σ2 7) (fun v3 => kn_v (rs_I σ2 4 v3) (fun σ4 => some (rg_I σ4 7, σ4)))))
set_option maxRecDepth 100000 in
set_option maxHeartbeats 4000000 in
theorem p_rX12_undo_b87 {p : Program} {l : Launch} {e : Env} {s : State} {m : MethodId} {args : Array Value} {below : List Frame} {meth : Method} {c : Code} {dC : Nat → ClassId} {dI : Nat → Nat → Nat} {kA : Nat → ClassId} {ad : Nat → Nat} (C : jxc cX12_undo (some .int) 2 RX12 p s m args meth c dC dI kA) (hap : jw_ap 32 ad) {res : Int32 × RS} : G_rX12_undo_b87 p l e s m args below meth c dC dI kA ad res (s_rX12_undo_b87) := by
  obtain ⟨hx, hb, hml, hown, hts, hr, hlocks, hK, hN⟩ := id C
  intro σ hf H locs ls hP hS hl
  unfold s_rX12_undo_b87 at hf
  refine lv_aload_n hx hb dX12_undo_87 rfl (lv_at hl 0 rfl) ?_
  refine lv_aload_n hx hb dX12_undo_88 rfl (lv_at hl 0 rfl) ?_
  refine r_gX12_oldWhole hx hb hts hown hK hP (hts _ kw_782) dX12_undo_89 ?_
  refine lv_aload_n hx hb dX12_undo_92 rfl (lv_at hl 0 rfl) ?_
  refine r_gX12_kept hx hb hts hown hK hP (hts _ kw_779) dX12_undo_93 ?_
  refine ja_lld hx hb hK hP 15 1 rfl rfl hf dX12_undo_96 (fun v1 hf => ?_)
  refine r_pX12_whole hx hb hts hown hK hap hP hS hf (hts _ kw_774) dX12_undo_97 (fun σ2 H locs hP hS hf => ?_)
  refine lv_aload_n hx hb dX12_undo_100 rfl (lv_at hl 0 rfl) ?_
  refine lv_aload_n hx hb dX12_undo_101 rfl (lv_at hl 0 rfl) ?_
  refine r_gX12_oldRounds hx hb hts hown hK hP (hts _ kw_783) dX12_undo_102 ?_
  refine lv_aload_n hx hb dX12_undo_105 rfl (lv_at hl 0 rfl) ?_
  refine r_gX12_kept hx hb hts hown hK hP (hts _ kw_779) dX12_undo_106 ?_
  refine ja_ild hx hb hK hP 16 0 rfl rfl hf dX12_undo_109 (fun v3 hf => ?_)
  refine r_pX12_rounds hx hb hts hown hK hap hP hS hf (hts _ kw_775) dX12_undo_110 (fun σ4 H locs hP hS hf => ?_)
  refine lv_aload_n hx hb dX12_undo_113 rfl (lv_at hl 0 rfl) ?_
  refine r_gX12_kept hx hb hts hown hK hP (hts _ kw_779) dX12_undo_114 ?_
  exact jr_i hx hb hr hlocks hf rfl hP hS dX12_undo_117
def s_rX12_undo_b55 (k55 : RS → Int32 → Option (Int32 × RS)) (σ : RS) (x1 : Int32) : Option (Int32 × RS) := if 12 ≤ x1 then (s_rX12_undo_b87 σ) else (kn_ld (rg_A σ 9) 72 ((12 * (rg_I σ 7)) + x1) (fun v1 => kn_st (rs_A σ 4 (upd (rg_A σ 4) x1.toNatClampNeg (vp_nar .boolean v1))) 12 x1 (fun σ2 => kn_v (x1 + 1) (fun v3 => k55 σ2 v3))))
set_option maxRecDepth 100000 in
set_option maxHeartbeats 4000000 in
theorem p_rX12_undo_b55 {p : Program} {l : Launch} {e : Env} {s : State} {m : MethodId} {args : Array Value} {below : List Frame} {meth : Method} {c : Code} {dC : Nat → ClassId} {dI : Nat → Nat → Nat} {kA : Nat → ClassId} {ad : Nat → Nat} (C : jxc cX12_undo (some .int) 2 RX12 p s m args meth c dC dI kA) (hap : jw_ap 32 ad) {res : Int32 × RS} {k55 : RS → Int32 → Option (Int32 × RS)} (hk55 : G_rX12_undo_b55 p l e s m args below meth c dC dI kA ad res k55) : G_rX12_undo_b55 p l e s m args below meth c dC dI kA ad res (s_rX12_undo_b55 k55) := by
  obtain ⟨hx, hb, hml, hown, hts, hr, hlocks, hK, hN⟩ := id C
  intro σ x1 hf H locs ls hP hS hl
  unfold s_rX12_undo_b55 at hf
  refine lv_iload_n hx hb dX12_undo_55 rfl (lv_at hl 1 rfl) ?_
  refine lv_bipush (v := 12) hx hb dX12_undo_56 (by decide) ?_
  refine jc_ge (tgt := 87) hx hb hf dX12_undo_58 (by decide) (fun hf => ?_) (fun hf => ?_)
  · exact (p_rX12_undo_b87 C hap) σ hf H locs ls hP hS (lv_sub hl [0] rfl)
  · refine lv_aload_n hx hb dX12_undo_61 rfl (lv_at hl 0 rfl) ?_
    refine r_gX12_awake hx hb hts hown hK hP (hts _ kw_767) dX12_undo_62 ?_
    refine lv_iload_n hx hb dX12_undo_65 rfl (lv_at hl 1 rfl) ?_
    refine lv_aload_n hx hb dX12_undo_66 rfl (lv_at hl 0 rfl) ?_
    refine r_gX12_oldAwake hx hb hts hown hK hP (hts _ kw_781) dX12_undo_67 ?_
    refine lv_bipush (v := 12) hx hb dX12_undo_70 (by decide) ?_
    refine lv_aload_n hx hb dX12_undo_72 rfl (lv_at hl 0 rfl) ?_
    refine r_gX12_kept hx hb hts hown hK hP (hts _ kw_779) dX12_undo_73 ?_
    refine lv_imul hx hb dX12_undo_76 ?_
    refine lv_iload_n hx hb dX12_undo_77 rfl (lv_at hl 1 rfl) ?_
    refine lv_iadd hx hb dX12_undo_78 ?_
    refine ja_zld hx hb hK hP 14 2 rfl rfl hf dX12_undo_79 (fun v1 hf => ?_)
    refine ja_zst hx hb hK (r_D hap σ) hP hS 7 2 rfl rfl rfl r_sA4 hf dX12_undo_80 (fun σ2 H locs hP hS hf => ?_)
    obtain ⟨v3, e_v3, hf⟩ := kn_v_e hf
    refine lv_iinc (v := v3) (lv' := [(1, .int v3), (0, .ref (ad 0))]) hx hb dX12_undo_81 hl (k := 1) rfl e_v3 (by decide) rfl (fun ls hl => ?_)
    refine lv_goto (tgt := 55) hx hb dX12_undo_84 (by decide) ?_
    exact hk55 σ2 v3 hf H locs ls hP hS (lv_sub hl [1, 0] rfl)
def f_rX12_undo_b55 : RS → Int32 → Option (Int32 × RS) := kn_fix (fun _ _ => none) (s_rX12_undo_b55) FU
theorem q_rX12_undo_b55 {p : Program} {l : Launch} {e : Env} {s : State} {m : MethodId} {args : Array Value} {below : List Frame} {meth : Method} {c : Code} {dC : Nat → ClassId} {dI : Nat → Nat → Nat} {kA : Nat → ClassId} {ad : Nat → Nat} (C : jxc cX12_undo (some .int) 2 RX12 p s m args meth c dC dI kA) (hap : jw_ap 32 ad) {res : Int32 × RS} : G_rX12_undo_b55 p l e s m args below meth c dC dI kA ad res (f_rX12_undo_b55) := kn_fix_ind (G := fun F => G_rX12_undo_b55 p l e s m args below meth c dC dI kA ad res F) (fun _ _ hf => by cases hf) (fun k55 hk55 => p_rX12_undo_b55 C hap hk55) FU
def s_rX12_undo_b53 (σ : RS) : Option (Int32 × RS) := f_rX12_undo_b55 σ 0
set_option maxRecDepth 100000 in
set_option maxHeartbeats 4000000 in
theorem p_rX12_undo_b53 {p : Program} {l : Launch} {e : Env} {s : State} {m : MethodId} {args : Array Value} {below : List Frame} {meth : Method} {c : Code} {dC : Nat → ClassId} {dI : Nat → Nat → Nat} {kA : Nat → ClassId} {ad : Nat → Nat} (C : jxc cX12_undo (some .int) 2 RX12 p s m args meth c dC dI kA) (hap : jw_ap 32 ad) {res : Int32 × RS} : G_rX12_undo_b53 p l e s m args below meth c dC dI kA ad res (s_rX12_undo_b53) := by
  obtain ⟨hx, hb, hml, hown, hts, hr, hlocks, hK, hN⟩ := id C
  intro σ hf H locs ls hP hS hl
  unfold s_rX12_undo_b53 at hf
  refine lv_iconst (v := 0) hx hb dX12_undo_53 (by decide) ?_
  refine lv_istore_n (lv' := [(1, .int 0), (0, .ref (ad 0))]) hx hb dX12_undo_54 rfl hl (by decide) rfl (fun ls hl => ?_)
  exact (q_rX12_undo_b55 C hap) σ 0 hf H locs ls hP hS (lv_sub hl [1, 0] rfl)
def s_rX12_undo_b21 (k21 : RS → Int32 → Option (Int32 × RS)) (σ : RS) (x1 : Int32) : Option (Int32 × RS) := if 36 ≤ x1 then (s_rX12_undo_b53 σ) else (kn_ld (rg_B σ 3) 216 ((36 * (rg_I σ 7)) + x1) (fun v1 => kn_st (rs_B σ 1 (vp_updL (rg_B σ 1) x1.toNatClampNeg v1)) 36 x1 (fun σ2 => kn_v (x1 + 1) (fun v3 => k21 σ2 v3))))
set_option maxRecDepth 100000 in
set_option maxHeartbeats 4000000 in
theorem p_rX12_undo_b21 {p : Program} {l : Launch} {e : Env} {s : State} {m : MethodId} {args : Array Value} {below : List Frame} {meth : Method} {c : Code} {dC : Nat → ClassId} {dI : Nat → Nat → Nat} {kA : Nat → ClassId} {ad : Nat → Nat} (C : jxc cX12_undo (some .int) 2 RX12 p s m args meth c dC dI kA) (hap : jw_ap 32 ad) {res : Int32 × RS} {k21 : RS → Int32 → Option (Int32 × RS)} (hk21 : G_rX12_undo_b21 p l e s m args below meth c dC dI kA ad res k21) : G_rX12_undo_b21 p l e s m args below meth c dC dI kA ad res (s_rX12_undo_b21 k21) := by
  obtain ⟨hx, hb, hml, hown, hts, hr, hlocks, hK, hN⟩ := id C
  intro σ x1 hf H locs ls hP hS hl
  unfold s_rX12_undo_b21 at hf
  refine lv_iload_n hx hb dX12_undo_21 rfl (lv_at hl 1 rfl) ?_
  refine lv_bipush (v := 36) hx hb dX12_undo_22 (by decide) ?_
  refine jc_ge (tgt := 53) hx hb hf dX12_undo_24 (by decide) (fun hf => ?_) (fun hf => ?_)
  · exact (p_rX12_undo_b53 C hap) σ hf H locs ls hP hS (lv_sub hl [0] rfl)
  · refine lv_aload_n hx hb dX12_undo_27 rfl (lv_at hl 0 rfl) ?_
    refine r_gX12_states hx hb hts hown hK hP (hts _ kw_766) dX12_undo_28 ?_
    refine lv_iload_n hx hb dX12_undo_31 rfl (lv_at hl 1 rfl) ?_
    refine lv_aload_n hx hb dX12_undo_32 rfl (lv_at hl 0 rfl) ?_
    refine r_gX12_oldStates hx hb hts hown hK hP (hts _ kw_780) dX12_undo_33 ?_
    refine lv_bipush (v := 36) hx hb dX12_undo_36 (by decide) ?_
    refine lv_aload_n hx hb dX12_undo_38 rfl (lv_at hl 0 rfl) ?_
    refine r_gX12_kept hx hb hts hown hK hP (hts _ kw_779) dX12_undo_39 ?_
    refine lv_imul hx hb dX12_undo_42 ?_
    refine lv_iload_n hx hb dX12_undo_43 rfl (lv_at hl 1 rfl) ?_
    refine lv_iadd hx hb dX12_undo_44 ?_
    refine ja_lld hx hb hK hP 13 1 rfl rfl hf dX12_undo_45 (fun v1 hf => ?_)
    refine ja_lst hx hb hK (r_D hap σ) hP hS 6 1 rfl rfl r_sB1 hf dX12_undo_46 (fun σ2 H locs hP hS hf => ?_)
    obtain ⟨v3, e_v3, hf⟩ := kn_v_e hf
    refine lv_iinc (v := v3) (lv' := [(1, .int v3), (0, .ref (ad 0))]) hx hb dX12_undo_47 hl (k := 1) rfl e_v3 (by decide) rfl (fun ls hl => ?_)
    refine lv_goto (tgt := 21) hx hb dX12_undo_50 (by decide) ?_
    exact hk21 σ2 v3 hf H locs ls hP hS (lv_sub hl [1, 0] rfl)
def f_rX12_undo_b21 : RS → Int32 → Option (Int32 × RS) := kn_fix (fun _ _ => none) (s_rX12_undo_b21) FU
theorem q_rX12_undo_b21 {p : Program} {l : Launch} {e : Env} {s : State} {m : MethodId} {args : Array Value} {below : List Frame} {meth : Method} {c : Code} {dC : Nat → ClassId} {dI : Nat → Nat → Nat} {kA : Nat → ClassId} {ad : Nat → Nat} (C : jxc cX12_undo (some .int) 2 RX12 p s m args meth c dC dI kA) (hap : jw_ap 32 ad) {res : Int32 × RS} : G_rX12_undo_b21 p l e s m args below meth c dC dI kA ad res (f_rX12_undo_b21) := kn_fix_ind (G := fun F => G_rX12_undo_b21 p l e s m args below meth c dC dI kA ad res F) (fun _ _ hf => by cases hf) (fun k21 hk21 => p_rX12_undo_b21 C hap hk21) FU
def s_rX12_undo (σ : RS) : Option (Int32 × RS) := if (rg_I σ 7) = 0 then (some ((-1), σ)) else (kn_v (rs_I σ 7 ((rg_I σ 7) - 1)) (fun σ1 => f_rX12_undo_b21 σ1 0))
set_option maxRecDepth 100000 in
set_option maxHeartbeats 4000000 in
theorem p_rX12_undo {p : Program} {l : Launch} {e : Env} {s : State} {m : MethodId} {args : Array Value} {below : List Frame} {meth : Method} {c : Code} {dC : Nat → ClassId} {dI : Nat → Nat → Nat} {kA : Nat → ClassId} {ad : Nat → Nat} (C : jxc cX12_undo (some .int) 2 RX12 p s m args meth c dC dI kA) (hap : jw_ap 32 ad) {res : Int32 × RS} : G_rX12_undo p l e s m args below meth c dC dI kA ad res (s_rX12_undo) := by
  obtain ⟨hx, hb, hml, hown, hts, hr, hlocks, hK, hN⟩ := id C
  intro σ hf H locs ls hP hS hl
  unfold s_rX12_undo at hf
  refine lv_aload_n hx hb dX12_undo_0 rfl (lv_at hl 0 rfl) ?_
  refine r_gX12_kept hx hb hts hown hK hP (hts _ kw_779) dX12_undo_1 ?_
  refine jb_ne (tgt := 9) hx hb hf dX12_undo_4 (by decide) (fun hf => ?_) (fun hf => ?_)
  · refine lv_aload_n hx hb dX12_undo_9 rfl (lv_at hl 0 rfl) ?_
    refine lv_dup hx hb dX12_undo_10 rfl ?_
    refine r_gX12_kept hx hb hts hown hK hP (hts _ kw_779) dX12_undo_11 ?_
    refine lv_iconst (v := 1) hx hb dX12_undo_14 (by decide) ?_
    refine lv_isub hx hb dX12_undo_15 ?_
    refine r_pX12_kept hx hb hts hown hK hap hP hS hf (hts _ kw_779) dX12_undo_16 (fun σ1 H locs hP hS hf => ?_)
    refine lv_iconst (v := 0) hx hb dX12_undo_19 (by decide) ?_
    refine lv_istore_n (lv' := [(1, .int 0), (0, .ref (ad 0))]) hx hb dX12_undo_20 rfl hl (by decide) rfl (fun ls hl => ?_)
    exact (q_rX12_undo_b21 C hap) σ1 0 hf H locs ls hP hS (lv_sub hl [1, 0] rfl)
  · refine lv_iconst (v := (-1)) hx hb dX12_undo_7 (by decide) ?_
    exact jr_i hx hb hr hlocks hf rfl hP hS dX12_undo_8
theorem c_rX12_undo (l : Launch) {dC : Nat → ClassId} {dI : Nat → Nat → Nat} {kA : Nat → ClassId} {ad : Nat → Nat} (hap : jw_ap 32 ad) (σ : RS) (res : Int32 × RS) (hf : s_rX12_undo σ = some res) : jm_i l KW NW (dC, dI) vwCl (jtys kA) (jw_A 32 ad) (r_w kA ad) yX12_undo cX12_undo 2 .int (rm_rX12_undo) [.ref (ad 0)] σ res := jm_i_of (by decide) (Nat.le_of_ble_eq_true rfl) (fun p e s m below meth c C hP hS ls hl => p_rX12_undo C hap σ hf s.heap [] ls hP hS hl)

def rm_rX12_failed : Room := { frames := 1, cells := 0, slots := 0, locals := 22 }
def G_rX12_failed (p : Program) (l : Launch) (e : Env) (s : State) (m : MethodId) (args : Array Value) (below : List Frame) (meth : Method) (c : Code) (dC : Nat → ClassId) (dI : Nat → Nat → Nat) (kA : Nat → ClassId) (ad : Nat → Nat) (res : Int32 × RS) (F : RS → Int32 → Option (Int32 × RS)) : Prop := ∀ (σ : RS) (x1 : Int32), F σ x1 = some res → ∀ (H : Heap) (locs : List Loc) (ls : Array Slot), va_P (dC, dI) vwCl (r_w kA ad σ) H → va_S (jw_A 32 ad) s.heap H locs → lv_has ls 2 [(0, .ref (ad 0)), (1, .int x1)] → W p l e rm_rX12_failed s m args below meth c H locs 0 0 (r_Qi below dC dI kA ad args s res) (F0 m 0 ls [])
def s_rX12_failed (σ : RS) (x1 : Int32) : Option (Int32 × RS) := kn_i (s_rX12_in σ x1 0 4) (fun v1 σ2 => if v1 = 0 then (some ((-102), σ2)) else (kn_ld (rg_A σ2 8) 5 x1 (fun v3 => some (v3, σ2))))
set_option maxRecDepth 100000 in
set_option maxHeartbeats 4000000 in
theorem p_rX12_failed {p : Program} {l : Launch} {e : Env} {s : State} {m : MethodId} {args : Array Value} {below : List Frame} {meth : Method} {c : Code} {dC : Nat → ClassId} {dI : Nat → Nat → Nat} {kA : Nat → ClassId} {ad : Nat → Nat} (C : jxc cX12_failed (some .int) 2 RX12 p s m args meth c dC dI kA) (hap : jw_ap 32 ad) {res : Int32 × RS} : G_rX12_failed p l e s m args below meth c dC dI kA ad res (s_rX12_failed) := by
  obtain ⟨hx, hb, hml, hown, hts, hr, hlocks, hK, hN⟩ := id C
  intro σ x1 hf H locs ls hP hS hl
  unfold s_rX12_failed at hf
  refine lv_iload_n hx hb dX12_failed_0 rfl (lv_at hl 1 rfl) ?_
  refine lv_iconst (v := 0) hx hb dX12_failed_1 (by decide) ?_
  refine lv_iconst (v := 4) hx hb dX12_failed_2 (by decide) ?_
  refine jk_i hf (fun res hres => js_run hx hb hml hown hts hK hN r_hG r_hNW hl.1 (n := 3) (As := [.int x1, .int 0, .int 4]) (rest := []) (c_rX12_in l hap σ x1 0 4 res hres) hP kw_925 kw_923 kw_924 kw_64 ⟨rfl, rfl⟩ (by decide +kernel) rfl ⟨Nat.le_of_ble_eq_true rfl, Nat.le_of_ble_eq_true rfl⟩ rfl (Nat.le_of_ble_eq_true rfl) dX12_failed_3) hS (fun v1 σ2 H locs hP hS hf => ?_)
  refine jb_eq (tgt := 18) hx hb hf dX12_failed_6 (by decide) (fun hf => ?_) (fun hf => ?_)
  · refine lv_bipush (v := (-102)) hx hb dX12_failed_18 (by decide) ?_
    exact jr_i hx hb hr hlocks hf rfl hP hS dX12_failed_20
  · refine lv_aload_n hx hb dX12_failed_9 rfl (lv_at hl 0 rfl) ?_
    refine r_gX12_failed hx hb hts hown hK hP (hts _ kw_777) dX12_failed_10 ?_
    refine lv_iload_n hx hb dX12_failed_13 rfl (lv_at hl 1 rfl) ?_
    refine ja_ild hx hb hK hP 12 0 rfl rfl hf dX12_failed_14 (fun v3 hf => ?_)
    refine lv_goto (tgt := 20) hx hb dX12_failed_15 (by decide) ?_
    exact jr_i hx hb hr hlocks hf rfl hP hS dX12_failed_20
theorem c_rX12_failed (l : Launch) {dC : Nat → ClassId} {dI : Nat → Nat → Nat} {kA : Nat → ClassId} {ad : Nat → Nat} (hap : jw_ap 32 ad) (σ : RS) (x1 : Int32) (res : Int32 × RS) (hf : s_rX12_failed σ x1 = some res) : jm_i l KW NW (dC, dI) vwCl (jtys kA) (jw_A 32 ad) (r_w kA ad) yX12_failed cX12_failed 2 .int (rm_rX12_failed) [.ref (ad 0), .int x1] σ res := jm_i_of (by decide) (Nat.le_of_ble_eq_true rfl) (fun p e s m below meth c C hP hS ls hl => p_rX12_failed C hap σ x1 hf s.heap [] ls hP hS hl)

def rm_rX12_why : Room := { frames := 0, cells := 0, slots := 0, locals := 0 }
def G_rX12_why (p : Program) (l : Launch) (e : Env) (s : State) (m : MethodId) (args : Array Value) (below : List Frame) (meth : Method) (c : Code) (dC : Nat → ClassId) (dI : Nat → Nat → Nat) (kA : Nat → ClassId) (ad : Nat → Nat) (res : Int32 × RS) (F : RS → Option (Int32 × RS)) : Prop := ∀ (σ : RS), F σ = some res → ∀ (H : Heap) (locs : List Loc) (ls : Array Slot), va_P (dC, dI) vwCl (r_w kA ad σ) H → va_S (jw_A 32 ad) s.heap H locs → lv_has ls 1 [(0, .ref (ad 0))] → W p l e rm_rX12_why s m args below meth c H locs 0 0 (r_Qi below dC dI kA ad args s res) (F0 m 0 ls [])
def s_rX12_why (σ : RS) : Option (Int32 × RS) := some (rg_I σ 6, σ)
set_option maxRecDepth 100000 in
set_option maxHeartbeats 4000000 in
theorem p_rX12_why {p : Program} {l : Launch} {e : Env} {s : State} {m : MethodId} {args : Array Value} {below : List Frame} {meth : Method} {c : Code} {dC : Nat → ClassId} {dI : Nat → Nat → Nat} {kA : Nat → ClassId} {ad : Nat → Nat} (C : jxc cX12_why (some .int) 1 RX12 p s m args meth c dC dI kA) (hap : jw_ap 32 ad) {res : Int32 × RS} : G_rX12_why p l e s m args below meth c dC dI kA ad res (s_rX12_why) := by
  obtain ⟨hx, hb, hml, hown, hts, hr, hlocks, hK, hN⟩ := id C
  intro σ hf H locs ls hP hS hl
  unfold s_rX12_why at hf
  refine lv_aload_n hx hb dX12_why_0 rfl (lv_at hl 0 rfl) ?_
  refine r_gX12_why hx hb hts hown hK hP (hts _ kw_778) dX12_why_1 ?_
  exact jr_i hx hb hr hlocks hf rfl hP hS dX12_why_4
theorem c_rX12_why (l : Launch) {dC : Nat → ClassId} {dI : Nat → Nat → Nat} {kA : Nat → ClassId} {ad : Nat → Nat} (hap : jw_ap 32 ad) (σ : RS) (res : Int32 × RS) (hf : s_rX12_why σ = some res) : jm_i l KW NW (dC, dI) vwCl (jtys kA) (jw_A 32 ad) (r_w kA ad) yX12_why cX12_why 1 .int (rm_rX12_why) [.ref (ad 0)] σ res := jm_i_of (by decide) (Nat.le_of_ble_eq_true rfl) (fun p e s m below meth c C hP hS ls hl => p_rX12_why C hap σ hf s.heap [] ls hP hS hl)

def rm_rX12_state : Room := { frames := 2, cells := 0, slots := 0, locals := 43 }
def G_rX12_state (p : Program) (l : Launch) (e : Env) (s : State) (m : MethodId) (args : Array Value) (below : List Frame) (meth : Method) (c : Code) (dC : Nat → ClassId) (dI : Nat → Nat → Nat) (kA : Nat → ClassId) (ad : Nat → Nat) (res : Int64 × RS) (F : RS → Int32 → Int32 → Option (Int64 × RS)) : Prop := ∀ (σ : RS) (x1 : Int32) (x2 : Int32), F σ x1 x2 = some res → ∀ (H : Heap) (locs : List Loc) (ls : Array Slot), va_P (dC, dI) vwCl (r_w kA ad σ) H → va_S (jw_A 32 ad) s.heap H locs → lv_has ls 3 [(0, .ref (ad 0)), (1, .int x1), (2, .int x2)] → W p l e rm_rX12_state s m args below meth c H locs 0 0 (r_Ql below dC dI kA ad args s res) (F0 m 0 ls [])
def s_rX12_state (σ : RS) (x1 : Int32) (x2 : Int32) : Option (Int64 × RS) := kn_i (s_rX12_isNode σ x1) (fun v1 σ2 => if v1 = 0 then (some ((-101), σ2)) else (kn_i (s_rX12_in σ2 x2 0 2) (fun v3 σ4 => if v3 = 0 then (some ((-102), σ4)) else (kn_ld (rg_B σ4 1) 36 ((3 * x1) + x2) (fun v5 => some (v5, σ4))))))
set_option maxRecDepth 100000 in
set_option maxHeartbeats 4000000 in
theorem p_rX12_state {p : Program} {l : Launch} {e : Env} {s : State} {m : MethodId} {args : Array Value} {below : List Frame} {meth : Method} {c : Code} {dC : Nat → ClassId} {dI : Nat → Nat → Nat} {kA : Nat → ClassId} {ad : Nat → Nat} (C : jxc cX12_state (some .long) 3 RX12 p s m args meth c dC dI kA) (hap : jw_ap 32 ad) {res : Int64 × RS} : G_rX12_state p l e s m args below meth c dC dI kA ad res (s_rX12_state) := by
  obtain ⟨hx, hb, hml, hown, hts, hr, hlocks, hK, hN⟩ := id C
  intro σ x1 x2 hf H locs ls hP hS hl
  unfold s_rX12_state at hf
  refine lv_aload_n hx hb dX12_state_0 rfl (lv_at hl 0 rfl) ?_
  refine lv_iload_n hx hb dX12_state_1 rfl (lv_at hl 1 rfl) ?_
  refine jk_i hf (fun res hres => jv_run hx hb hml hown hts hK hN r_hG r_hNW hl.1 (n := 1) (As := [.int x1]) (rest := []) (c_rX12_isNode l hap σ x1 res hres) hP (ci := 12) (q0 := 0) rfl rfl rfl kw_942 kw_939 kw_941 kw_25 kw_64 ⟨rfl, rfl⟩ (by decide +kernel) rfl ⟨Nat.le_of_ble_eq_true rfl, Nat.le_of_ble_eq_true rfl⟩ rfl (Nat.le_of_ble_eq_true rfl) dX12_state_2) hS (fun v1 σ2 H locs hP hS hf => ?_)
  refine jb_ne (tgt := 14) hx hb hf dX12_state_5 (by decide) (fun hf => ?_) (fun hf => ?_)
  · refine lv_iload_n hx hb dX12_state_14 rfl (lv_at hl 2 rfl) ?_
    refine lv_iconst (v := 0) hx hb dX12_state_15 (by decide) ?_
    refine lv_iconst (v := 2) hx hb dX12_state_16 (by decide) ?_
    refine jk_i hf (fun res hres => js_run hx hb hml hown hts hK hN r_hG r_hNW hl.1 (n := 3) (As := [.int x2, .int 0, .int 2]) (rest := []) (c_rX12_in l hap σ2 x2 0 2 res hres) hP kw_925 kw_923 kw_924 kw_64 ⟨rfl, rfl⟩ (by decide +kernel) rfl ⟨Nat.le_of_ble_eq_true rfl, Nat.le_of_ble_eq_true rfl⟩ rfl (Nat.le_of_ble_eq_true rfl) dX12_state_17) hS (fun v3 σ4 H locs hP hS hf => ?_)
    refine jb_ne (tgt := 29) hx hb hf dX12_state_20 (by decide) (fun hf => ?_) (fun hf => ?_)
    · refine lv_aload_n hx hb dX12_state_29 rfl (lv_at hl 0 rfl) ?_
      refine r_gX12_states hx hb hts hown hK hP (hts _ kw_766) dX12_state_30 ?_
      refine lv_iconst (v := 3) hx hb dX12_state_33 (by decide) ?_
      refine lv_iload_n hx hb dX12_state_34 rfl (lv_at hl 1 rfl) ?_
      refine lv_imul hx hb dX12_state_35 ?_
      refine lv_iload_n hx hb dX12_state_36 rfl (lv_at hl 2 rfl) ?_
      refine lv_iadd hx hb dX12_state_37 ?_
      refine ja_lld hx hb hK hP 6 1 rfl rfl hf dX12_state_38 (fun v5 hf => ?_)
      exact jr_l hx hb hr hlocks hf hP hS dX12_state_39
    · refine lv_ldc2 (v := (-102)) hx hb hown (hts _ kw_1084) dX12_state_23 ?_
      refine lv_goto (tgt := 39) hx hb dX12_state_26 (by decide) ?_
      exact jr_l hx hb hr hlocks hf hP hS dX12_state_39
  · refine lv_ldc2 (v := (-101)) hx hb hown (hts _ kw_1075) dX12_state_8 ?_
    refine lv_goto (tgt := 39) hx hb dX12_state_11 (by decide) ?_
    exact jr_l hx hb hr hlocks hf hP hS dX12_state_39
theorem c_rX12_state (l : Launch) {dC : Nat → ClassId} {dI : Nat → Nat → Nat} {kA : Nat → ClassId} {ad : Nat → Nat} (hap : jw_ap 32 ad) (σ : RS) (x1 : Int32) (x2 : Int32) (res : Int64 × RS) (hf : s_rX12_state σ x1 x2 = some res) : jm_l l KW NW (dC, dI) vwCl (jtys kA) (jw_A 32 ad) (r_w kA ad) yX12_state cX12_state 3 (rm_rX12_state) [.ref (ad 0), .int x1, .int x2] σ res := jm_l_of (by decide) (Nat.le_of_ble_eq_true rfl) (fun p e s m below meth c C hP hS ls hl => p_rX12_state C hap σ x1 x2 hf s.heap [] ls hP hS hl)

def rm_rX12_whole : Room := { frames := 0, cells := 0, slots := 0, locals := 0 }
def G_rX12_whole (p : Program) (l : Launch) (e : Env) (s : State) (m : MethodId) (args : Array Value) (below : List Frame) (meth : Method) (c : Code) (dC : Nat → ClassId) (dI : Nat → Nat → Nat) (kA : Nat → ClassId) (ad : Nat → Nat) (res : Int64 × RS) (F : RS → Option (Int64 × RS)) : Prop := ∀ (σ : RS), F σ = some res → ∀ (H : Heap) (locs : List Loc) (ls : Array Slot), va_P (dC, dI) vwCl (r_w kA ad σ) H → va_S (jw_A 32 ad) s.heap H locs → lv_has ls 1 [(0, .ref (ad 0))] → W p l e rm_rX12_whole s m args below meth c H locs 0 0 (r_Ql below dC dI kA ad args s res) (F0 m 0 ls [])
def s_rX12_whole (σ : RS) : Option (Int64 × RS) := some (rg_L σ 0, σ)
set_option maxRecDepth 100000 in
set_option maxHeartbeats 4000000 in
theorem p_rX12_whole {p : Program} {l : Launch} {e : Env} {s : State} {m : MethodId} {args : Array Value} {below : List Frame} {meth : Method} {c : Code} {dC : Nat → ClassId} {dI : Nat → Nat → Nat} {kA : Nat → ClassId} {ad : Nat → Nat} (C : jxc cX12_whole (some .long) 1 RX12 p s m args meth c dC dI kA) (hap : jw_ap 32 ad) {res : Int64 × RS} : G_rX12_whole p l e s m args below meth c dC dI kA ad res (s_rX12_whole) := by
  obtain ⟨hx, hb, hml, hown, hts, hr, hlocks, hK, hN⟩ := id C
  intro σ hf H locs ls hP hS hl
  unfold s_rX12_whole at hf
  refine lv_aload_n hx hb dX12_whole_0 rfl (lv_at hl 0 rfl) ?_
  refine r_gX12_whole hx hb hts hown hK hP (hts _ kw_774) dX12_whole_1 ?_
  exact jr_l hx hb hr hlocks hf hP hS dX12_whole_4
theorem c_rX12_whole (l : Launch) {dC : Nat → ClassId} {dI : Nat → Nat → Nat} {kA : Nat → ClassId} {ad : Nat → Nat} (hap : jw_ap 32 ad) (σ : RS) (res : Int64 × RS) (hf : s_rX12_whole σ = some res) : jm_l l KW NW (dC, dI) vwCl (jtys kA) (jw_A 32 ad) (r_w kA ad) yX12_whole cX12_whole 1 (rm_rX12_whole) [.ref (ad 0)] σ res := jm_l_of (by decide) (Nat.le_of_ble_eq_true rfl) (fun p e s m below meth c C hP hS ls hl => p_rX12_whole C hap σ hf s.heap [] ls hP hS hl)

def rm_rX12_awake : Room := { frames := 2, cells := 0, slots := 0, locals := 43 }
def G_rX12_awake (p : Program) (l : Launch) (e : Env) (s : State) (m : MethodId) (args : Array Value) (below : List Frame) (meth : Method) (c : Code) (dC : Nat → ClassId) (dI : Nat → Nat → Nat) (kA : Nat → ClassId) (ad : Nat → Nat) (res : Int32 × RS) (F : RS → Int32 → Option (Int32 × RS)) : Prop := ∀ (σ : RS) (x1 : Int32), F σ x1 = some res → ∀ (H : Heap) (locs : List Loc) (ls : Array Slot), va_P (dC, dI) vwCl (r_w kA ad σ) H → va_S (jw_A 32 ad) s.heap H locs → lv_has ls 2 [(0, .ref (ad 0)), (1, .int x1)] → W p l e rm_rX12_awake s m args below meth c H locs 0 0 (r_Qi below dC dI kA ad args s res) (F0 m 0 ls [])
def s_rX12_awake (σ : RS) (x1 : Int32) : Option (Int32 × RS) := kn_i (s_rX12_isNode σ x1) (fun v1 σ2 => if v1 = 0 then (some ((-101), σ2)) else (kn_ld (rg_A σ2 4) 12 x1 (fun v3 => if v3 = 0 then (some (0, σ2)) else (some (1, σ2)))))
set_option maxRecDepth 100000 in
set_option maxHeartbeats 4000000 in
theorem p_rX12_awake {p : Program} {l : Launch} {e : Env} {s : State} {m : MethodId} {args : Array Value} {below : List Frame} {meth : Method} {c : Code} {dC : Nat → ClassId} {dI : Nat → Nat → Nat} {kA : Nat → ClassId} {ad : Nat → Nat} (C : jxc cX12_awake (some .int) 2 RX12 p s m args meth c dC dI kA) (hap : jw_ap 32 ad) {res : Int32 × RS} : G_rX12_awake p l e s m args below meth c dC dI kA ad res (s_rX12_awake) := by
  obtain ⟨hx, hb, hml, hown, hts, hr, hlocks, hK, hN⟩ := id C
  intro σ x1 hf H locs ls hP hS hl
  unfold s_rX12_awake at hf
  refine lv_aload_n hx hb dX12_awake_0 rfl (lv_at hl 0 rfl) ?_
  refine lv_iload_n hx hb dX12_awake_1 rfl (lv_at hl 1 rfl) ?_
  refine jk_i hf (fun res hres => jv_run hx hb hml hown hts hK hN r_hG r_hNW hl.1 (n := 1) (As := [.int x1]) (rest := []) (c_rX12_isNode l hap σ x1 res hres) hP (ci := 12) (q0 := 0) rfl rfl rfl kw_942 kw_939 kw_941 kw_25 kw_64 ⟨rfl, rfl⟩ (by decide +kernel) rfl ⟨Nat.le_of_ble_eq_true rfl, Nat.le_of_ble_eq_true rfl⟩ rfl (Nat.le_of_ble_eq_true rfl) dX12_awake_2) hS (fun v1 σ2 H locs hP hS hf => ?_)
  refine jb_ne (tgt := 13) hx hb hf dX12_awake_5 (by decide) (fun hf => ?_) (fun hf => ?_)
  · refine lv_aload_n hx hb dX12_awake_13 rfl (lv_at hl 0 rfl) ?_
    refine r_gX12_awake hx hb hts hown hK hP (hts _ kw_767) dX12_awake_14 ?_
    refine lv_iload_n hx hb dX12_awake_17 rfl (lv_at hl 1 rfl) ?_
    refine ja_zld hx hb hK hP 7 2 rfl rfl hf dX12_awake_18 (fun v3 hf => ?_)
    refine jb_eq (tgt := 26) hx hb hf dX12_awake_19 (by decide) (fun hf => ?_) (fun hf => ?_)
    · refine lv_iconst (v := 0) hx hb dX12_awake_26 (by decide) ?_
      exact jr_i hx hb hr hlocks hf rfl hP hS dX12_awake_27
    · refine lv_iconst (v := 1) hx hb dX12_awake_22 (by decide) ?_
      refine lv_goto (tgt := 27) hx hb dX12_awake_23 (by decide) ?_
      exact jr_i hx hb hr hlocks hf rfl hP hS dX12_awake_27
  · refine lv_bipush (v := (-101)) hx hb dX12_awake_8 (by decide) ?_
    refine lv_goto (tgt := 27) hx hb dX12_awake_10 (by decide) ?_
    exact jr_i hx hb hr hlocks hf rfl hP hS dX12_awake_27
theorem c_rX12_awake (l : Launch) {dC : Nat → ClassId} {dI : Nat → Nat → Nat} {kA : Nat → ClassId} {ad : Nat → Nat} (hap : jw_ap 32 ad) (σ : RS) (x1 : Int32) (res : Int32 × RS) (hf : s_rX12_awake σ x1 = some res) : jm_i l KW NW (dC, dI) vwCl (jtys kA) (jw_A 32 ad) (r_w kA ad) yX12_awake cX12_awake 2 .int (rm_rX12_awake) [.ref (ad 0), .int x1] σ res := jm_i_of (by decide) (Nat.le_of_ble_eq_true rfl) (fun p e s m below meth c C hP hS ls hl => p_rX12_awake C hap σ x1 hf s.heap [] ls hP hS hl)

def rm_rX12_along : Room := { frames := 1, cells := 0, slots := 0, locals := 22 }
def G_rX12_along (p : Program) (l : Launch) (e : Env) (s : State) (m : MethodId) (args : Array Value) (below : List Frame) (meth : Method) (c : Code) (dC : Nat → ClassId) (dI : Nat → Nat → Nat) (kA : Nat → ClassId) (ad : Nat → Nat) (res : Int32 × RS) (F : RS → Int32 → Option (Int32 × RS)) : Prop := ∀ (σ : RS) (x1 : Int32), F σ x1 = some res → ∀ (H : Heap) (locs : List Loc) (ls : Array Slot), va_P (dC, dI) vwCl (r_w kA ad σ) H → va_S (jw_A 32 ad) s.heap H locs → lv_has ls 2 [(0, .ref (ad 0)), (1, .int x1)] → W p l e rm_rX12_along s m args below meth c H locs 0 0 (r_Qi below dC dI kA ad args s res) (F0 m 0 ls [])
def s_rX12_along (σ : RS) (x1 : Int32) : Option (Int32 × RS) := kn_i (s_rX12_in σ x1 0 ((rg_I σ 8) - 1)) (fun v1 σ2 => if v1 = 0 then (some ((-102), σ2)) else (kn_ld (rg_A σ2 11) 200 x1 (fun v3 => some (v3, σ2))))
set_option maxRecDepth 100000 in
set_option maxHeartbeats 4000000 in
theorem p_rX12_along {p : Program} {l : Launch} {e : Env} {s : State} {m : MethodId} {args : Array Value} {below : List Frame} {meth : Method} {c : Code} {dC : Nat → ClassId} {dI : Nat → Nat → Nat} {kA : Nat → ClassId} {ad : Nat → Nat} (C : jxc cX12_along (some .int) 2 RX12 p s m args meth c dC dI kA) (hap : jw_ap 32 ad) {res : Int32 × RS} : G_rX12_along p l e s m args below meth c dC dI kA ad res (s_rX12_along) := by
  obtain ⟨hx, hb, hml, hown, hts, hr, hlocks, hK, hN⟩ := id C
  intro σ x1 hf H locs ls hP hS hl
  unfold s_rX12_along at hf
  refine lv_iload_n hx hb dX12_along_0 rfl (lv_at hl 1 rfl) ?_
  refine lv_iconst (v := 0) hx hb dX12_along_1 (by decide) ?_
  refine lv_aload_n hx hb dX12_along_2 rfl (lv_at hl 0 rfl) ?_
  refine r_gX12_told hx hb hts hown hK hP (hts _ kw_784) dX12_along_3 ?_
  refine lv_iconst (v := 1) hx hb dX12_along_6 (by decide) ?_
  refine lv_isub hx hb dX12_along_7 ?_
  refine jk_i hf (fun res hres => js_run hx hb hml hown hts hK hN r_hG r_hNW hl.1 (n := 3) (As := [.int x1, .int 0, .int ((rg_I σ 8) - 1)]) (rest := []) (c_rX12_in l hap σ x1 0 ((rg_I σ 8) - 1) res hres) hP kw_925 kw_923 kw_924 kw_64 ⟨rfl, rfl⟩ (by decide +kernel) rfl ⟨Nat.le_of_ble_eq_true rfl, Nat.le_of_ble_eq_true rfl⟩ rfl (Nat.le_of_ble_eq_true rfl) dX12_along_8) hS (fun v1 σ2 H locs hP hS hf => ?_)
  refine jb_eq (tgt := 23) hx hb hf dX12_along_11 (by decide) (fun hf => ?_) (fun hf => ?_)
  · refine lv_bipush (v := (-102)) hx hb dX12_along_23 (by decide) ?_
    exact jr_i hx hb hr hlocks hf rfl hP hS dX12_along_25
  · refine lv_aload_n hx hb dX12_along_14 rfl (lv_at hl 0 rfl) ?_
    refine r_gX12_toldArcs hx hb hts hown hK hP (hts _ kw_785) dX12_along_15 ?_
    refine lv_iload_n hx hb dX12_along_18 rfl (lv_at hl 1 rfl) ?_
    refine ja_ild hx hb hK hP 17 0 rfl rfl hf dX12_along_19 (fun v3 hf => ?_)
    refine lv_goto (tgt := 25) hx hb dX12_along_20 (by decide) ?_
    exact jr_i hx hb hr hlocks hf rfl hP hS dX12_along_25
theorem c_rX12_along (l : Launch) {dC : Nat → ClassId} {dI : Nat → Nat → Nat} {kA : Nat → ClassId} {ad : Nat → Nat} (hap : jw_ap 32 ad) (σ : RS) (x1 : Int32) (res : Int32 × RS) (hf : s_rX12_along σ x1 = some res) : jm_i l KW NW (dC, dI) vwCl (jtys kA) (jw_A 32 ad) (r_w kA ad) yX12_along cX12_along 2 .int (rm_rX12_along) [.ref (ad 0), .int x1] σ res := jm_i_of (by decide) (Nat.le_of_ble_eq_true rfl) (fun p e s m below meth c C hP hS ls hl => p_rX12_along C hap σ x1 hf s.heap [] ls hP hS hl)

def rm_rX12_message : Room := { frames := 1, cells := 0, slots := 0, locals := 22 }
def G_rX12_message (p : Program) (l : Launch) (e : Env) (s : State) (m : MethodId) (args : Array Value) (below : List Frame) (meth : Method) (c : Code) (dC : Nat → ClassId) (dI : Nat → Nat → Nat) (kA : Nat → ClassId) (ad : Nat → Nat) (res : Int64 × RS) (F : RS → Int32 → Option (Int64 × RS)) : Prop := ∀ (σ : RS) (x1 : Int32), F σ x1 = some res → ∀ (H : Heap) (locs : List Loc) (ls : Array Slot), va_P (dC, dI) vwCl (r_w kA ad σ) H → va_S (jw_A 32 ad) s.heap H locs → lv_has ls 2 [(0, .ref (ad 0)), (1, .int x1)] → W p l e rm_rX12_message s m args below meth c H locs 0 0 (r_Ql below dC dI kA ad args s res) (F0 m 0 ls [])
def s_rX12_message (σ : RS) (x1 : Int32) : Option (Int64 × RS) := kn_i (s_rX12_in σ x1 0 ((rg_I σ 8) - 1)) (fun v1 σ2 => if v1 = 0 then (some ((-102), σ2)) else (kn_ld (rg_B σ2 5) 200 x1 (fun v3 => some (v3, σ2))))
set_option maxRecDepth 100000 in
set_option maxHeartbeats 4000000 in
theorem p_rX12_message {p : Program} {l : Launch} {e : Env} {s : State} {m : MethodId} {args : Array Value} {below : List Frame} {meth : Method} {c : Code} {dC : Nat → ClassId} {dI : Nat → Nat → Nat} {kA : Nat → ClassId} {ad : Nat → Nat} (C : jxc cX12_message (some .long) 2 RX12 p s m args meth c dC dI kA) (hap : jw_ap 32 ad) {res : Int64 × RS} : G_rX12_message p l e s m args below meth c dC dI kA ad res (s_rX12_message) := by
  obtain ⟨hx, hb, hml, hown, hts, hr, hlocks, hK, hN⟩ := id C
  intro σ x1 hf H locs ls hP hS hl
  unfold s_rX12_message at hf
  refine lv_iload_n hx hb dX12_message_0 rfl (lv_at hl 1 rfl) ?_
  refine lv_iconst (v := 0) hx hb dX12_message_1 (by decide) ?_
  refine lv_aload_n hx hb dX12_message_2 rfl (lv_at hl 0 rfl) ?_
  refine r_gX12_told hx hb hts hown hK hP (hts _ kw_784) dX12_message_3 ?_
  refine lv_iconst (v := 1) hx hb dX12_message_6 (by decide) ?_
  refine lv_isub hx hb dX12_message_7 ?_
  refine jk_i hf (fun res hres => js_run hx hb hml hown hts hK hN r_hG r_hNW hl.1 (n := 3) (As := [.int x1, .int 0, .int ((rg_I σ 8) - 1)]) (rest := []) (c_rX12_in l hap σ x1 0 ((rg_I σ 8) - 1) res hres) hP kw_925 kw_923 kw_924 kw_64 ⟨rfl, rfl⟩ (by decide +kernel) rfl ⟨Nat.le_of_ble_eq_true rfl, Nat.le_of_ble_eq_true rfl⟩ rfl (Nat.le_of_ble_eq_true rfl) dX12_message_8) hS (fun v1 σ2 H locs hP hS hf => ?_)
  refine jb_eq (tgt := 23) hx hb hf dX12_message_11 (by decide) (fun hf => ?_) (fun hf => ?_)
  · refine lv_ldc2 (v := (-102)) hx hb hown (hts _ kw_1084) dX12_message_23 ?_
    exact jr_l hx hb hr hlocks hf hP hS dX12_message_26
  · refine lv_aload_n hx hb dX12_message_14 rfl (lv_at hl 0 rfl) ?_
    refine r_gX12_toldMessages hx hb hts hown hK hP (hts _ kw_786) dX12_message_15 ?_
    refine lv_iload_n hx hb dX12_message_18 rfl (lv_at hl 1 rfl) ?_
    refine ja_lld hx hb hK hP 18 1 rfl rfl hf dX12_message_19 (fun v3 hf => ?_)
    refine lv_goto (tgt := 26) hx hb dX12_message_20 (by decide) ?_
    exact jr_l hx hb hr hlocks hf hP hS dX12_message_26
theorem c_rX12_message (l : Launch) {dC : Nat → ClassId} {dI : Nat → Nat → Nat} {kA : Nat → ClassId} {ad : Nat → Nat} (hap : jw_ap 32 ad) (σ : RS) (x1 : Int32) (res : Int64 × RS) (hf : s_rX12_message σ x1 = some res) : jm_l l KW NW (dC, dI) vwCl (jtys kA) (jw_A 32 ad) (r_w kA ad) yX12_message cX12_message 2 (rm_rX12_message) [.ref (ad 0), .int x1] σ res := jm_l_of (by decide) (Nat.le_of_ble_eq_true rfl) (fun p e s m below meth c C hP hS ls hl => p_rX12_message C hap σ x1 hf s.heap [] ls hP hS hl)

def rm_rX12_count : Room := { frames := 0, cells := 0, slots := 0, locals := 0 }
def G_rX12_count_b35 (p : Program) (l : Launch) (e : Env) (s : State) (m : MethodId) (args : Array Value) (below : List Frame) (meth : Method) (c : Code) (dC : Nat → ClassId) (dI : Nat → Nat → Nat) (kA : Nat → ClassId) (ad : Nat → Nat) (res : Int32 × RS) (F : RS → Int32 → Int32 → Option (Int32 × RS)) : Prop := ∀ (σ : RS) (x1 : Int32) (x2 : Int32), F σ x1 x2 = some res → ∀ (H : Heap) (locs : List Loc) (ls : Array Slot), va_P (dC, dI) vwCl (r_w kA ad σ) H → va_S (jw_A 32 ad) s.heap H locs → lv_has ls 4 [(0, .ref (ad 0)), (1, .int x1), (2, .int x2)] → W p l e rm_rX12_count s m args below meth c H locs 0 0 (r_Qi below dC dI kA ad args s res) (F0 m 35 ls [])
def G_rX12_count_b27 (p : Program) (l : Launch) (e : Env) (s : State) (m : MethodId) (args : Array Value) (below : List Frame) (meth : Method) (c : Code) (dC : Nat → ClassId) (dI : Nat → Nat → Nat) (kA : Nat → ClassId) (ad : Nat → Nat) (res : Int32 × RS) (F : RS → Int32 → Int32 → Int32 → Int32 → Option (Int32 × RS)) : Prop := ∀ (σ : RS) (x1 : Int32) (x3 : Int32) (s0 : Int32) (s1 : Int32), F σ x1 x3 s0 s1 = some res → ∀ (H : Heap) (locs : List Loc) (ls : Array Slot), va_P (dC, dI) vwCl (r_w kA ad σ) H → va_S (jw_A 32 ad) s.heap H locs → lv_has ls 4 [(0, .ref (ad 0)), (1, .int x1), (3, .int x3)] → W p l e rm_rX12_count s m args below meth c H locs 0 0 (r_Qi below dC dI kA ad args s res) (F0 m 27 ls [.int s0, .int s1])
def G_rX12_count_b4 (p : Program) (l : Launch) (e : Env) (s : State) (m : MethodId) (args : Array Value) (below : List Frame) (meth : Method) (c : Code) (dC : Nat → ClassId) (dI : Nat → Nat → Nat) (kA : Nat → ClassId) (ad : Nat → Nat) (res : Int32 × RS) (F : RS → Int32 → Int32 → Int32 → Option (Int32 × RS)) : Prop := ∀ (σ : RS) (x1 : Int32) (x2 : Int32) (x3 : Int32), F σ x1 x2 x3 = some res → ∀ (H : Heap) (locs : List Loc) (ls : Array Slot), va_P (dC, dI) vwCl (r_w kA ad σ) H → va_S (jw_A 32 ad) s.heap H locs → lv_has ls 4 [(0, .ref (ad 0)), (1, .int x1), (2, .int x2), (3, .int x3)] → W p l e rm_rX12_count s m args below meth c H locs 0 0 (r_Qi below dC dI kA ad args s res) (F0 m 4 ls [])
def G_rX12_count (p : Program) (l : Launch) (e : Env) (s : State) (m : MethodId) (args : Array Value) (below : List Frame) (meth : Method) (c : Code) (dC : Nat → ClassId) (dI : Nat → Nat → Nat) (kA : Nat → ClassId) (ad : Nat → Nat) (res : Int32 × RS) (F : RS → Int32 → Option (Int32 × RS)) : Prop := ∀ (σ : RS) (x1 : Int32), F σ x1 = some res → ∀ (H : Heap) (locs : List Loc) (ls : Array Slot), va_P (dC, dI) vwCl (r_w kA ad σ) H → va_S (jw_A 32 ad) s.heap H locs → lv_has ls 4 [(0, .ref (ad 0)), (1, .int x1)] → W p l e rm_rX12_count s m args below meth c H locs 0 0 (r_Qi below dC dI kA ad args s res) (F0 m 0 ls [])
def s_rX12_count_b35 (σ : RS) (x1 : Int32) (x2 : Int32) : Option (Int32 × RS) := if x1 = 0 then (some (rg_I σ 0, σ)) else (if x1 = 1 then (some (rg_I σ 1, σ)) else (if x1 = 2 then (some (rg_I σ 2, σ)) else (if x1 = 3 then (some (rg_I σ 4, σ)) else (if x1 = 4 then (some (x2, σ)) else (if x1 = 5 then (some (rg_I σ 5, σ)) else (if x1 = 6 then (some (rg_I σ 8, σ)) else (if x1 = 7 then (some (rg_I σ 7, σ)) else (some ((-102), σ)))))))))
set_option maxRecDepth 100000 in
set_option maxHeartbeats 4000000 in
theorem p_rX12_count_b35 {p : Program} {l : Launch} {e : Env} {s : State} {m : MethodId} {args : Array Value} {below : List Frame} {meth : Method} {c : Code} {dC : Nat → ClassId} {dI : Nat → Nat → Nat} {kA : Nat → ClassId} {ad : Nat → Nat} (C : jxc cX12_count (some .int) 4 RX12 p s m args meth c dC dI kA) (hap : jw_ap 32 ad) {res : Int32 × RS} : G_rX12_count_b35 p l e s m args below meth c dC dI kA ad res (s_rX12_count_b35) := by
  obtain ⟨hx, hb, hml, hown, hts, hr, hlocks, hK, hN⟩ := id C
  intro σ x1 x2 hf H locs ls hP hS hl
  unfold s_rX12_count_b35 at hf
  refine lv_iload_n hx hb dX12_count_35 rfl (lv_at hl 1 rfl) ?_
  by_cases c1 : x1 = 0
  · have hf := kn_t hf c1
    refine lv_tableIn (tgt := 84) hx hb dX12_count_36 (by rw [c1]; decide) (by rw [c1]; decide) (by rw [c1]; rfl) (by decide) ?_
    refine lv_aload_n hx hb dX12_count_84 rfl (lv_at hl 0 rfl) ?_
    refine r_gX12_terms hx hb hts hown hK hP (hts _ kw_759) dX12_count_85 ?_
    exact jr_i hx hb hr hlocks hf rfl hP hS dX12_count_88
  · have hf := kn_f hf c1
    by_cases c2 : x1 = 1
    · have hf := kn_t hf c2
      refine lv_tableIn (tgt := 89) hx hb dX12_count_36 (by rw [c2]; decide) (by rw [c2]; decide) (by rw [c2]; rfl) (by decide) ?_
      refine lv_aload_n hx hb dX12_count_89 rfl (lv_at hl 0 rfl) ?_
      refine r_gX12_nodes hx hb hts hown hK hP (hts _ kw_765) dX12_count_90 ?_
      exact jr_i hx hb hr hlocks hf rfl hP hS dX12_count_93
    · have hf := kn_f hf c2
      by_cases c3 : x1 = 2
      · have hf := kn_t hf c3
        refine lv_tableIn (tgt := 94) hx hb dX12_count_36 (by rw [c3]; decide) (by rw [c3]; decide) (by rw [c3]; rfl) (by decide) ?_
        refine lv_aload_n hx hb dX12_count_94 rfl (lv_at hl 0 rfl) ?_
        refine r_gX12_arcs hx hb hts hown hK hP (hts _ kw_768) dX12_count_95 ?_
        exact jr_i hx hb hr hlocks hf rfl hP hS dX12_count_98
      · have hf := kn_f hf c3
        by_cases c4 : x1 = 3
        · have hf := kn_t hf c4
          refine lv_tableIn (tgt := 99) hx hb dX12_count_36 (by rw [c4]; decide) (by rw [c4]; decide) (by rw [c4]; rfl) (by decide) ?_
          refine lv_aload_n hx hb dX12_count_99 rfl (lv_at hl 0 rfl) ?_
          refine r_gX12_rounds hx hb hts hown hK hP (hts _ kw_775) dX12_count_100 ?_
          exact jr_i hx hb hr hlocks hf rfl hP hS dX12_count_103
        · have hf := kn_f hf c4
          by_cases c5 : x1 = 4
          · have hf := kn_t hf c5
            refine lv_tableIn (tgt := 104) hx hb dX12_count_36 (by rw [c5]; decide) (by rw [c5]; decide) (by rw [c5]; rfl) (by decide) ?_
            refine lv_iload_n hx hb dX12_count_104 rfl (lv_at hl 2 rfl) ?_
            exact jr_i hx hb hr hlocks hf rfl hP hS dX12_count_105
          · have hf := kn_f hf c5
            by_cases c6 : x1 = 5
            · have hf := kn_t hf c6
              refine lv_tableIn (tgt := 106) hx hb dX12_count_36 (by rw [c6]; decide) (by rw [c6]; decide) (by rw [c6]; rfl) (by decide) ?_
              refine lv_aload_n hx hb dX12_count_106 rfl (lv_at hl 0 rfl) ?_
              refine r_gX12_steps hx hb hts hown hK hP (hts _ kw_776) dX12_count_107 ?_
              exact jr_i hx hb hr hlocks hf rfl hP hS dX12_count_110
            · have hf := kn_f hf c6
              by_cases c7 : x1 = 6
              · have hf := kn_t hf c7
                refine lv_tableIn (tgt := 111) hx hb dX12_count_36 (by rw [c7]; decide) (by rw [c7]; decide) (by rw [c7]; rfl) (by decide) ?_
                refine lv_aload_n hx hb dX12_count_111 rfl (lv_at hl 0 rfl) ?_
                refine r_gX12_told hx hb hts hown hK hP (hts _ kw_784) dX12_count_112 ?_
                exact jr_i hx hb hr hlocks hf rfl hP hS dX12_count_115
              · have hf := kn_f hf c7
                by_cases c8 : x1 = 7
                · have hf := kn_t hf c8
                  refine lv_tableIn (tgt := 116) hx hb dX12_count_36 (by rw [c8]; decide) (by rw [c8]; decide) (by rw [c8]; rfl) (by decide) ?_
                  refine lv_aload_n hx hb dX12_count_116 rfl (lv_at hl 0 rfl) ?_
                  refine r_gX12_kept hx hb hts hown hK hP (hts _ kw_779) dX12_count_117 ?_
                  exact jr_i hx hb hr hlocks hf rfl hP hS dX12_count_120
                · have hf := kn_f hf c8
                  refine lv_tableOut (tgt := 121) hx hb dX12_count_36 (by have t0 := lv_neT c1 (a := 0) (by decide); have t1 := lv_neT c2 (a := 1) (by decide); have t2 := lv_neT c3 (a := 2) (by decide); have t3 := lv_neT c4 (a := 3) (by decide); have t4 := lv_neT c5 (a := 4) (by decide); have t5 := lv_neT c6 (a := 5) (by decide); have t6 := lv_neT c7 (a := 6) (by decide); have t7 := lv_neT c8 (a := 7) (by decide); omega) (by decide) ?_
                  refine lv_bipush (v := (-102)) hx hb dX12_count_121 (by decide) ?_
                  exact jr_i hx hb hr hlocks hf rfl hP hS dX12_count_123
def s_rX12_count_b27 (k4 : RS → Int32 → Int32 → Int32 → Option (Int32 × RS)) (σ : RS) (x1 : Int32) (x3 : Int32) (s0 : Int32) (s1 : Int32) : Option (Int32 × RS) := kn_v (s1 + s0) (fun v1 => kn_v (x3 + 1) (fun v2 => k4 σ x1 v1 v2))
set_option maxRecDepth 100000 in
set_option maxHeartbeats 4000000 in
theorem p_rX12_count_b27 {p : Program} {l : Launch} {e : Env} {s : State} {m : MethodId} {args : Array Value} {below : List Frame} {meth : Method} {c : Code} {dC : Nat → ClassId} {dI : Nat → Nat → Nat} {kA : Nat → ClassId} {ad : Nat → Nat} (C : jxc cX12_count (some .int) 4 RX12 p s m args meth c dC dI kA) (hap : jw_ap 32 ad) {res : Int32 × RS} {k4 : RS → Int32 → Int32 → Int32 → Option (Int32 × RS)} (hk4 : G_rX12_count_b4 p l e s m args below meth c dC dI kA ad res k4) : G_rX12_count_b27 p l e s m args below meth c dC dI kA ad res (s_rX12_count_b27 k4) := by
  obtain ⟨hx, hb, hml, hown, hts, hr, hlocks, hK, hN⟩ := id C
  intro σ x1 x3 s0 s1 hf H locs ls hP hS hl
  unfold s_rX12_count_b27 at hf
  refine lv_iadd hx hb dX12_count_27 ?_
  refine jn_i hf (fun v1 hf => ?_)
  refine lv_istore_n (lv' := [(2, .int v1), (0, .ref (ad 0)), (1, .int x1), (3, .int x3)]) hx hb dX12_count_28 rfl hl (by decide) rfl (fun ls hl => ?_)
  obtain ⟨v2, e_v2, hf⟩ := kn_v_e hf
  refine lv_iinc (v := v2) (lv' := [(3, .int v2), (2, .int v1), (0, .ref (ad 0)), (1, .int x1)]) hx hb dX12_count_29 hl (k := 3) rfl e_v2 (by decide) rfl (fun ls hl => ?_)
  refine lv_goto (tgt := 4) hx hb dX12_count_32 (by decide) ?_
  exact hk4 σ x1 v1 v2 hf H locs ls hP hS (lv_sub hl [2, 3, 1, 0] rfl)
def s_rX12_count_b4 (k4 : RS → Int32 → Int32 → Int32 → Option (Int32 × RS)) (σ : RS) (x1 : Int32) (x2 : Int32) (x3 : Int32) : Option (Int32 × RS) := if (rg_I σ 1) ≤ x3 then (s_rX12_count_b35 σ x1 x2) else (kn_ld (rg_A σ 4) 12 x3 (fun v1 => if v1 = 0 then (s_rX12_count_b27 k4 σ x1 x3 0 x2) else (s_rX12_count_b27 k4 σ x1 x3 1 x2)))
set_option maxRecDepth 100000 in
set_option maxHeartbeats 4000000 in
theorem p_rX12_count_b4 {p : Program} {l : Launch} {e : Env} {s : State} {m : MethodId} {args : Array Value} {below : List Frame} {meth : Method} {c : Code} {dC : Nat → ClassId} {dI : Nat → Nat → Nat} {kA : Nat → ClassId} {ad : Nat → Nat} (C : jxc cX12_count (some .int) 4 RX12 p s m args meth c dC dI kA) (hap : jw_ap 32 ad) {res : Int32 × RS} {k4 : RS → Int32 → Int32 → Int32 → Option (Int32 × RS)} (hk4 : G_rX12_count_b4 p l e s m args below meth c dC dI kA ad res k4) : G_rX12_count_b4 p l e s m args below meth c dC dI kA ad res (s_rX12_count_b4 k4) := by
  obtain ⟨hx, hb, hml, hown, hts, hr, hlocks, hK, hN⟩ := id C
  intro σ x1 x2 x3 hf H locs ls hP hS hl
  unfold s_rX12_count_b4 at hf
  refine lv_iload_n hx hb dX12_count_4 rfl (lv_at hl 3 rfl) ?_
  refine lv_aload_n hx hb dX12_count_5 rfl (lv_at hl 0 rfl) ?_
  refine r_gX12_nodes hx hb hts hown hK hP (hts _ kw_765) dX12_count_6 ?_
  refine jc_ge (tgt := 35) hx hb hf dX12_count_9 (by decide) (fun hf => ?_) (fun hf => ?_)
  · exact (p_rX12_count_b35 C hap) σ x1 x2 hf H locs ls hP hS (lv_sub hl [0, 1, 2] rfl)
  · refine lv_iload_n hx hb dX12_count_12 rfl (lv_at hl 2 rfl) ?_
    refine lv_aload_n hx hb dX12_count_13 rfl (lv_at hl 0 rfl) ?_
    refine r_gX12_awake hx hb hts hown hK hP (hts _ kw_767) dX12_count_14 ?_
    refine lv_iload_n hx hb dX12_count_17 rfl (lv_at hl 3 rfl) ?_
    refine ja_zld hx hb hK hP 7 2 rfl rfl hf dX12_count_18 (fun v1 hf => ?_)
    refine jb_eq (tgt := 26) hx hb hf dX12_count_19 (by decide) (fun hf => ?_) (fun hf => ?_)
    · refine lv_iconst (v := 0) hx hb dX12_count_26 (by decide) ?_
      exact (p_rX12_count_b27 C hap hk4) σ x1 x3 0 x2 hf H locs ls hP hS (lv_sub hl [0, 1, 3] rfl)
    · refine lv_iconst (v := 1) hx hb dX12_count_22 (by decide) ?_
      refine lv_goto (tgt := 27) hx hb dX12_count_23 (by decide) ?_
      exact (p_rX12_count_b27 C hap hk4) σ x1 x3 1 x2 hf H locs ls hP hS (lv_sub hl [0, 1, 3] rfl)
def f_rX12_count_b4 : RS → Int32 → Int32 → Int32 → Option (Int32 × RS) := kn_fix (fun _ _ _ _ => none) (s_rX12_count_b4) FU
theorem q_rX12_count_b4 {p : Program} {l : Launch} {e : Env} {s : State} {m : MethodId} {args : Array Value} {below : List Frame} {meth : Method} {c : Code} {dC : Nat → ClassId} {dI : Nat → Nat → Nat} {kA : Nat → ClassId} {ad : Nat → Nat} (C : jxc cX12_count (some .int) 4 RX12 p s m args meth c dC dI kA) (hap : jw_ap 32 ad) {res : Int32 × RS} : G_rX12_count_b4 p l e s m args below meth c dC dI kA ad res (f_rX12_count_b4) := kn_fix_ind (G := fun F => G_rX12_count_b4 p l e s m args below meth c dC dI kA ad res F) (fun _ _ _ _ hf => by cases hf) (fun k4 hk4 => p_rX12_count_b4 C hap hk4) FU
def s_rX12_count (σ : RS) (x1 : Int32) : Option (Int32 × RS) := f_rX12_count_b4 σ x1 0 0
set_option maxRecDepth 100000 in
set_option maxHeartbeats 4000000 in
theorem p_rX12_count {p : Program} {l : Launch} {e : Env} {s : State} {m : MethodId} {args : Array Value} {below : List Frame} {meth : Method} {c : Code} {dC : Nat → ClassId} {dI : Nat → Nat → Nat} {kA : Nat → ClassId} {ad : Nat → Nat} (C : jxc cX12_count (some .int) 4 RX12 p s m args meth c dC dI kA) (hap : jw_ap 32 ad) {res : Int32 × RS} : G_rX12_count p l e s m args below meth c dC dI kA ad res (s_rX12_count) := by
  obtain ⟨hx, hb, hml, hown, hts, hr, hlocks, hK, hN⟩ := id C
  intro σ x1 hf H locs ls hP hS hl
  unfold s_rX12_count at hf
  refine lv_iconst (v := 0) hx hb dX12_count_0 (by decide) ?_
  refine lv_istore_n (lv' := [(2, .int 0), (0, .ref (ad 0)), (1, .int x1)]) hx hb dX12_count_1 rfl hl (by decide) rfl (fun ls hl => ?_)
  refine lv_iconst (v := 0) hx hb dX12_count_2 (by decide) ?_
  refine lv_istore_n (lv' := [(3, .int 0), (2, .int 0), (0, .ref (ad 0)), (1, .int x1)]) hx hb dX12_count_3 rfl hl (by decide) rfl (fun ls hl => ?_)
  exact (q_rX12_count_b4 C hap) σ x1 0 0 hf H locs ls hP hS (lv_sub hl [2, 3, 1, 0] rfl)
theorem c_rX12_count (l : Launch) {dC : Nat → ClassId} {dI : Nat → Nat → Nat} {kA : Nat → ClassId} {ad : Nat → Nat} (hap : jw_ap 32 ad) (σ : RS) (x1 : Int32) (res : Int32 × RS) (hf : s_rX12_count σ x1 = some res) : jm_i l KW NW (dC, dI) vwCl (jtys kA) (jw_A 32 ad) (r_w kA ad) yX12_count cX12_count 4 .int (rm_rX12_count) [.ref (ad 0), .int x1] σ res := jm_i_of (by decide) (Nat.le_of_ble_eq_true rfl) (fun p e s m below meth c C hP hS ls hl => p_rX12_count C hap σ x1 hf s.heap [] ls hP hS hl)
