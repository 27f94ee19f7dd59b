theorem dX10_hasArc_0 : decode cX10_hasArc 0 = .ok (.iload_n 1, 1) := by decide +kernel
theorem dX10_hasArc_1 : decode cX10_hasArc 1 = .ok (.ifCond .lt 15, 3) := by decide +kernel
theorem dX10_hasArc_4 : decode cX10_hasArc 4 = .ok (.iload_n 1, 1) := by decide +kernel
theorem dX10_hasArc_5 : decode cX10_hasArc 5 = .ok (.aload_n 0, 1) := by decide +kernel
theorem dX10_hasArc_6 : decode cX10_hasArc 6 = .ok (.getfield 36, 3) := by decide +kernel
theorem dX10_hasArc_9 : decode cX10_hasArc 9 = .ok (.if_icmp .ge 7, 3) := by decide +kernel
theorem dX10_hasArc_12 : decode cX10_hasArc 12 = .ok (.iconst 1, 1) := by decide +kernel
theorem dX10_hasArc_13 : decode cX10_hasArc 13 = .ok (.goto 4, 3) := by decide +kernel
theorem dX10_hasArc_16 : decode cX10_hasArc 16 = .ok (.iconst 0, 1) := by decide +kernel
theorem dX10_hasArc_17 : decode cX10_hasArc 17 = .ok (.ireturn, 1) := by decide +kernel
theorem dX10_addNode_0 : decode cX10_addNode 0 = .ok (.aload_n 0, 1) := by decide +kernel
theorem dX10_addNode_1 : decode cX10_addNode 1 = .ok (.getfield 32, 3) := by decide +kernel
theorem dX10_addNode_4 : decode cX10_addNode 4 = .ok (.bipush 12, 2) := by decide +kernel
theorem dX10_addNode_6 : decode cX10_addNode 6 = .ok (.if_icmp .lt 6, 3) := by decide +kernel
theorem dX10_addNode_9 : decode cX10_addNode 9 = .ok (.bipush (-103), 2) := by decide +kernel
theorem dX10_addNode_11 : decode cX10_addNode 11 = .ok (.ireturn, 1) := by decide +kernel
theorem dX10_addNode_12 : decode cX10_addNode 12 = .ok (.aload_n 0, 1) := by decide +kernel
theorem dX10_addNode_13 : decode cX10_addNode 13 = .ok (.getfield 15, 3) := by decide +kernel
theorem dX10_addNode_16 : decode cX10_addNode 16 = .ok (.aload_n 0, 1) := by decide +kernel
theorem dX10_addNode_17 : decode cX10_addNode 17 = .ok (.getfield 32, 3) := by decide +kernel
theorem dX10_addNode_20 : decode cX10_addNode 20 = .ok (.iconst 1, 1) := by decide +kernel
theorem dX10_addNode_21 : decode cX10_addNode 21 = .ok (.bastore, 1) := by decide +kernel
theorem dX10_addNode_22 : decode cX10_addNode 22 = .ok (.aload_n 0, 1) := by decide +kernel
theorem dX10_addNode_23 : decode cX10_addNode 23 = .ok (.dup, 1) := by decide +kernel
theorem dX10_addNode_24 : decode cX10_addNode 24 = .ok (.getfield 32, 3) := by decide +kernel
theorem dX10_addNode_27 : decode cX10_addNode 27 = .ok (.iconst 1, 1) := by decide +kernel
theorem dX10_addNode_28 : decode cX10_addNode 28 = .ok (.iadd, 1) := by decide +kernel
theorem dX10_addNode_29 : decode cX10_addNode 29 = .ok (.putfield 32, 3) := by decide +kernel
theorem dX10_addNode_32 : decode cX10_addNode 32 = .ok (.aload_n 0, 1) := by decide +kernel
theorem dX10_addNode_33 : decode cX10_addNode 33 = .ok (.getfield 32, 3) := by decide +kernel
theorem dX10_addNode_36 : decode cX10_addNode 36 = .ok (.iconst 1, 1) := by decide +kernel
theorem dX10_addNode_37 : decode cX10_addNode 37 = .ok (.isub, 1) := by decide +kernel
theorem dX10_addNode_38 : decode cX10_addNode 38 = .ok (.ireturn, 1) := by decide +kernel
theorem dX10_addArc_0 : decode cX10_addArc 0 = .ok (.aload_n 0, 1) := by decide +kernel
theorem dX10_addArc_1 : decode cX10_addArc 1 = .ok (.iload_n 1, 1) := by decide +kernel
theorem dX10_addArc_2 : decode cX10_addArc 2 = .ok (.invokevirtual 39, 3) := by decide +kernel
theorem dX10_addArc_5 : decode cX10_addArc 5 = .ok (.ifCond .eq 11, 3) := by decide +kernel
theorem dX10_addArc_8 : decode cX10_addArc 8 = .ok (.aload_n 0, 1) := by decide +kernel
theorem dX10_addArc_9 : decode cX10_addArc 9 = .ok (.iload_n 2, 1) := by decide +kernel
theorem dX10_addArc_10 : decode cX10_addArc 10 = .ok (.invokevirtual 39, 3) := by decide +kernel
theorem dX10_addArc_13 : decode cX10_addArc 13 = .ok (.ifCond .ne 6, 3) := by decide +kernel
theorem dX10_addArc_16 : decode cX10_addArc 16 = .ok (.bipush (-101), 2) := by decide +kernel
theorem dX10_addArc_18 : decode cX10_addArc 18 = .ok (.ireturn, 1) := by decide +kernel
theorem dX10_addArc_19 : decode cX10_addArc 19 = .ok (.aload_n 0, 1) := by decide +kernel
theorem dX10_addArc_20 : decode cX10_addArc 20 = .ok (.getfield 36, 3) := by decide +kernel
theorem dX10_addArc_23 : decode cX10_addArc 23 = .ok (.bipush 40, 2) := by decide +kernel
theorem dX10_addArc_25 : decode cX10_addArc 25 = .ok (.if_icmp .lt 6, 3) := by decide +kernel
theorem dX10_addArc_28 : decode cX10_addArc 28 = .ok (.bipush (-103), 2) := by decide +kernel
theorem dX10_addArc_30 : decode cX10_addArc 30 = .ok (.ireturn, 1) := by decide +kernel
theorem dX10_addArc_31 : decode cX10_addArc 31 = .ok (.aload_n 0, 1) := by decide +kernel
theorem dX10_addArc_32 : decode cX10_addArc 32 = .ok (.getfield 23, 3) := by decide +kernel
theorem dX10_addArc_35 : decode cX10_addArc 35 = .ok (.aload_n 0, 1) := by decide +kernel
theorem dX10_addArc_36 : decode cX10_addArc 36 = .ok (.getfield 36, 3) := by decide +kernel
theorem dX10_addArc_39 : decode cX10_addArc 39 = .ok (.iload_n 1, 1) := by decide +kernel
theorem dX10_addArc_40 : decode cX10_addArc 40 = .ok (.iastore, 1) := by decide +kernel
theorem dX10_addArc_41 : decode cX10_addArc 41 = .ok (.aload_n 0, 1) := by decide +kernel
theorem dX10_addArc_42 : decode cX10_addArc 42 = .ok (.getfield 26, 3) := by decide +kernel
theorem dX10_addArc_45 : decode cX10_addArc 45 = .ok (.aload_n 0, 1) := by decide +kernel
theorem dX10_addArc_46 : decode cX10_addArc 46 = .ok (.getfield 36, 3) := by decide +kernel
theorem dX10_addArc_49 : decode cX10_addArc 49 = .ok (.iload_n 2, 1) := by decide +kernel
theorem dX10_addArc_50 : decode cX10_addArc 50 = .ok (.iastore, 1) := by decide +kernel
theorem dX10_addArc_51 : decode cX10_addArc 51 = .ok (.aload_n 0, 1) := by decide +kernel
theorem dX10_addArc_52 : decode cX10_addArc 52 = .ok (.getfield 29, 3) := by decide +kernel
theorem dX10_addArc_55 : decode cX10_addArc 55 = .ok (.aload_n 0, 1) := by decide +kernel
theorem dX10_addArc_56 : decode cX10_addArc 56 = .ok (.getfield 36, 3) := by decide +kernel
theorem dX10_addArc_59 : decode cX10_addArc 59 = .ok (.lload_n 3, 1) := by decide +kernel
theorem dX10_addArc_60 : decode cX10_addArc 60 = .ok (.lastore, 1) := by decide +kernel
theorem dX10_addArc_61 : decode cX10_addArc 61 = .ok (.aload_n 0, 1) := by decide +kernel
theorem dX10_addArc_62 : decode cX10_addArc 62 = .ok (.getfield 19, 3) := by decide +kernel
theorem dX10_addArc_65 : decode cX10_addArc 65 = .ok (.iload_n 1, 1) := by decide +kernel
theorem dX10_addArc_66 : decode cX10_addArc 66 = .ok (.dup2, 1) := by decide +kernel
theorem dX10_addArc_67 : decode cX10_addArc 67 = .ok (.iaload, 1) := by decide +kernel
theorem dX10_addArc_68 : decode cX10_addArc 68 = .ok (.iconst 1, 1) := by decide +kernel
theorem dX10_addArc_69 : decode cX10_addArc 69 = .ok (.iadd, 1) := by decide +kernel
theorem dX10_addArc_70 : decode cX10_addArc 70 = .ok (.iastore, 1) := by decide +kernel
theorem dX10_addArc_71 : decode cX10_addArc 71 = .ok (.aload_n 0, 1) := by decide +kernel
theorem dX10_addArc_72 : decode cX10_addArc 72 = .ok (.dup, 1) := by decide +kernel
theorem dX10_addArc_73 : decode cX10_addArc 73 = .ok (.getfield 36, 3) := by decide +kernel
theorem dX10_addArc_76 : decode cX10_addArc 76 = .ok (.iconst 1, 1) := by decide +kernel
theorem dX10_addArc_77 : decode cX10_addArc 77 = .ok (.iadd, 1) := by decide +kernel
theorem dX10_addArc_78 : decode cX10_addArc 78 = .ok (.putfield 36, 3) := by decide +kernel
theorem dX10_addArc_81 : decode cX10_addArc 81 = .ok (.aload_n 0, 1) := by decide +kernel
theorem dX10_addArc_82 : decode cX10_addArc 82 = .ok (.getfield 36, 3) := by decide +kernel
theorem dX10_addArc_85 : decode cX10_addArc 85 = .ok (.iconst 1, 1) := by decide +kernel
theorem dX10_addArc_86 : decode cX10_addArc 86 = .ok (.isub, 1) := by decide +kernel
theorem dX10_addArc_87 : decode cX10_addArc 87 = .ok (.ireturn, 1) := by decide +kernel
theorem dX10_awakeNodes_0 : decode cX10_awakeNodes 0 = .ok (.iconst 0, 1) := by decide +kernel
theorem dX10_awakeNodes_1 : decode cX10_awakeNodes 1 = .ok (.istore_n 1, 1) := by decide +kernel
theorem dX10_awakeNodes_2 : decode cX10_awakeNodes 2 = .ok (.iconst 0, 1) := by decide +kernel
theorem dX10_awakeNodes_3 : decode cX10_awakeNodes 3 = .ok (.istore_n 2, 1) := by decide +kernel
theorem dX10_awakeNodes_4 : decode cX10_awakeNodes 4 = .ok (.iload_n 2, 1) := by decide +kernel
theorem dX10_awakeNodes_5 : decode cX10_awakeNodes 5 = .ok (.aload_n 0, 1) := by decide +kernel
theorem dX10_awakeNodes_6 : decode cX10_awakeNodes 6 = .ok (.getfield 32, 3) := by decide +kernel
theorem dX10_awakeNodes_9 : decode cX10_awakeNodes 9 = .ok (.if_icmp .ge 21, 3) := by decide +kernel
theorem dX10_awakeNodes_12 : decode cX10_awakeNodes 12 = .ok (.aload_n 0, 1) := by decide +kernel
theorem dX10_awakeNodes_13 : decode cX10_awakeNodes 13 = .ok (.getfield 15, 3) := by decide +kernel
theorem dX10_awakeNodes_16 : decode cX10_awakeNodes 16 = .ok (.iload_n 2, 1) := by decide +kernel
theorem dX10_awakeNodes_17 : decode cX10_awakeNodes 17 = .ok (.baload, 1) := by decide +kernel
theorem dX10_awakeNodes_18 : decode cX10_awakeNodes 18 = .ok (.ifCond .eq 6, 3) := by decide +kernel
theorem dX10_awakeNodes_21 : decode cX10_awakeNodes 21 = .ok (.iinc 1 1, 3) := by decide +kernel
theorem dX10_awakeNodes_24 : decode cX10_awakeNodes 24 = .ok (.iinc 2 1, 3) := by decide +kernel
theorem dX10_awakeNodes_27 : decode cX10_awakeNodes 27 = .ok (.goto (-23), 3) := by decide +kernel
theorem dX10_awakeNodes_30 : decode cX10_awakeNodes 30 = .ok (.iload_n 1, 1) := by decide +kernel
theorem dX10_awakeNodes_31 : decode cX10_awakeNodes 31 = .ok (.ireturn, 1) := by decide +kernel
theorem dX11_undo_0 : decode cX11_undo 0 = .ok (.aload_n 0, 1) := by decide +kernel
theorem dX11_undo_1 : decode cX11_undo 1 = .ok (.getfield 40, 3) := by decide +kernel
theorem dX11_undo_4 : decode cX11_undo 4 = .ok (.aload_n 0, 1) := by decide +kernel
theorem dX11_undo_5 : decode cX11_undo 5 = .ok (.getfield 19, 3) := by decide +kernel
theorem dX11_undo_8 : decode cX11_undo 8 = .ok (.invokevirtual 137, 3) := by decide +kernel
theorem dX11_undo_11 : decode cX11_undo 11 = .ok (.ireturn, 1) := by decide +kernel
theorem dX11_failed_0 : decode cX11_failed 0 = .ok (.aload_n 0, 1) := by decide +kernel
theorem dX11_failed_1 : decode cX11_failed 1 = .ok (.getfield 33, 3) := by decide +kernel
theorem dX11_failed_4 : decode cX11_failed 4 = .ok (.iload_n 1, 1) := by decide +kernel
theorem dX11_failed_5 : decode cX11_failed 5 = .ok (.invokevirtual 141, 3) := by decide +kernel
theorem dX11_failed_8 : decode cX11_failed 8 = .ok (.ireturn, 1) := by decide +kernel
theorem dX11_why_0 : decode cX11_why 0 = .ok (.aload_n 0, 1) := by decide +kernel
theorem dX11_why_1 : decode cX11_why 1 = .ok (.getfield 144, 3) := by decide +kernel
theorem dX11_why_4 : decode cX11_why 4 = .ok (.ireturn, 1) := by decide +kernel
theorem dX11_whole_0 : decode cX11_whole 0 = .ok (.aload_n 0, 1) := by decide +kernel
theorem dX11_whole_1 : decode cX11_whole 1 = .ok (.getfield 19, 3) := by decide +kernel
theorem dX11_whole_4 : decode cX11_whole 4 = .ok (.getfield 164, 3) := by decide +kernel
theorem dX11_whole_7 : decode cX11_whole 7 = .ok (.lreturn, 1) := by decide +kernel
theorem dX11_awake_0 : decode cX11_awake 0 = .ok (.aload_n 0, 1) := by decide +kernel
theorem dX11_awake_1 : decode cX11_awake 1 = .ok (.getfield 19, 3) := by decide +kernel
theorem dX11_awake_4 : decode cX11_awake 4 = .ok (.iload_n 1, 1) := by decide +kernel
theorem dX11_awake_5 : decode cX11_awake 5 = .ok (.invokevirtual 101, 3) := by decide +kernel
theorem dX11_awake_8 : decode cX11_awake 8 = .ok (.ifCond .ne 6, 3) := by decide +kernel
theorem dX11_awake_11 : decode cX11_awake 11 = .ok (.bipush (-101), 2) := by decide +kernel
theorem dX11_awake_13 : decode cX11_awake 13 = .ok (.ireturn, 1) := by decide +kernel
theorem dX11_awake_14 : decode cX11_awake 14 = .ok (.aload_n 0, 1) := by decide +kernel
theorem dX11_awake_15 : decode cX11_awake 15 = .ok (.getfield 19, 3) := by decide +kernel
theorem dX11_awake_18 : decode cX11_awake 18 = .ok (.getfield 113, 3) := by decide +kernel
theorem dX11_awake_21 : decode cX11_awake 21 = .ok (.iload_n 1, 1) := by decide +kernel
theorem dX11_awake_22 : decode cX11_awake 22 = .ok (.baload, 1) := by decide +kernel
theorem dX11_awake_23 : decode cX11_awake 23 = .ok (.ifCond .eq 7, 3) := by decide +kernel
theorem dX11_awake_26 : decode cX11_awake 26 = .ok (.iconst 1, 1) := by decide +kernel
theorem dX11_awake_27 : decode cX11_awake 27 = .ok (.goto 4, 3) := by decide +kernel
theorem dX11_awake_30 : decode cX11_awake 30 = .ok (.iconst 0, 1) := by decide +kernel
theorem dX11_awake_31 : decode cX11_awake 31 = .ok (.ireturn, 1) := by decide +kernel
theorem dX11_along_0 : decode cX11_along 0 = .ok (.aload_n 0, 1) := by decide +kernel
theorem dX11_along_1 : decode cX11_along 1 = .ok (.getfield 47, 3) := by decide +kernel
theorem dX11_along_4 : decode cX11_along 4 = .ok (.iload_n 1, 1) := by decide +kernel
theorem dX11_along_5 : decode cX11_along 5 = .ok (.invokevirtual 168, 3) := by decide +kernel
theorem dX11_along_8 : decode cX11_along 8 = .ok (.ifCond .eq 15, 3) := by decide +kernel
theorem dX11_along_11 : decode cX11_along 11 = .ok (.aload_n 0, 1) := by decide +kernel
theorem dX11_along_12 : decode cX11_along 12 = .ok (.getfield 47, 3) := by decide +kernel
theorem dX11_along_15 : decode cX11_along 15 = .ok (.getfield 169, 3) := by decide +kernel
theorem dX11_along_18 : decode cX11_along 18 = .ok (.iload_n 1, 1) := by decide +kernel
theorem dX11_along_19 : decode cX11_along 19 = .ok (.iaload, 1) := by decide +kernel
theorem dX11_along_20 : decode cX11_along 20 = .ok (.goto 5, 3) := by decide +kernel
theorem dX11_along_23 : decode cX11_along 23 = .ok (.bipush (-102), 2) := by decide +kernel
theorem dX11_along_25 : decode cX11_along 25 = .ok (.ireturn, 1) := by decide +kernel
theorem dX11_message_0 : decode cX11_message 0 = .ok (.aload_n 0, 1) := by decide +kernel
theorem dX11_message_1 : decode cX11_message 1 = .ok (.getfield 47, 3) := by decide +kernel
theorem dX11_message_4 : decode cX11_message 4 = .ok (.iload_n 1, 1) := by decide +kernel
theorem dX11_message_5 : decode cX11_message 5 = .ok (.invokevirtual 168, 3) := by decide +kernel
theorem dX11_message_8 : decode cX11_message 8 = .ok (.ifCond .eq 15, 3) := by decide +kernel
theorem dX11_message_11 : decode cX11_message 11 = .ok (.aload_n 0, 1) := by decide +kernel
theorem dX11_message_12 : decode cX11_message 12 = .ok (.getfield 47, 3) := by decide +kernel
theorem dX11_message_15 : decode cX11_message 15 = .ok (.getfield 172, 3) := by decide +kernel
theorem dX11_message_18 : decode cX11_message 18 = .ok (.iload_n 1, 1) := by decide +kernel
theorem dX11_message_19 : decode cX11_message 19 = .ok (.laload, 1) := by decide +kernel
theorem dX11_message_20 : decode cX11_message 20 = .ok (.goto 6, 3) := by decide +kernel
theorem dX11_message_23 : decode cX11_message 23 = .ok (.ldc2_w 162, 3) := by decide +kernel
theorem dX11_message_26 : decode cX11_message 26 = .ok (.lreturn, 1) := by decide +kernel
theorem dX11_count_0 : decode cX11_count 0 = .ok (.iload_n 1, 1) := by decide +kernel
theorem dX11_count_1 : decode cX11_count 1 = .ok (.tableswitch 111 0 7 #[47, 55, 63, 71, 79, 87, 95, 103], 47) := by decide +kernel
theorem dX11_count_48 : decode cX11_count 48 = .ok (.aload_n 0, 1) := by decide +kernel
theorem dX11_count_49 : decode cX11_count 49 = .ok (.getfield 10, 3) := by decide +kernel
theorem dX11_count_52 : decode cX11_count 52 = .ok (.getfield 175, 3) := by decide +kernel
theorem dX11_count_55 : decode cX11_count 55 = .ok (.ireturn, 1) := by decide +kernel
theorem dX11_count_56 : decode cX11_count 56 = .ok (.aload_n 0, 1) := by decide +kernel
theorem dX11_count_57 : decode cX11_count 57 = .ok (.getfield 19, 3) := by decide +kernel
theorem dX11_count_60 : decode cX11_count 60 = .ok (.getfield 178, 3) := by decide +kernel
theorem dX11_count_63 : decode cX11_count 63 = .ok (.ireturn, 1) := by decide +kernel
theorem dX11_count_64 : decode cX11_count 64 = .ok (.aload_n 0, 1) := by decide +kernel
theorem dX11_count_65 : decode cX11_count 65 = .ok (.getfield 19, 3) := by decide +kernel
theorem dX11_count_68 : decode cX11_count 68 = .ok (.getfield 181, 3) := by decide +kernel
theorem dX11_count_71 : decode cX11_count 71 = .ok (.ireturn, 1) := by decide +kernel
theorem dX11_count_72 : decode cX11_count 72 = .ok (.aload_n 0, 1) := by decide +kernel
theorem dX11_count_73 : decode cX11_count 73 = .ok (.getfield 19, 3) := by decide +kernel
theorem dX11_count_76 : decode cX11_count 76 = .ok (.getfield 183, 3) := by decide +kernel
theorem dX11_count_79 : decode cX11_count 79 = .ok (.ireturn, 1) := by decide +kernel
theorem dX11_count_80 : decode cX11_count 80 = .ok (.aload_n 0, 1) := by decide +kernel
theorem dX11_count_81 : decode cX11_count 81 = .ok (.getfield 19, 3) := by decide +kernel
theorem dX11_count_84 : decode cX11_count 84 = .ok (.invokevirtual 186, 3) := by decide +kernel
theorem dX11_count_87 : decode cX11_count 87 = .ok (.ireturn, 1) := by decide +kernel
theorem dX11_count_88 : decode cX11_count 88 = .ok (.aload_n 0, 1) := by decide +kernel
theorem dX11_count_89 : decode cX11_count 89 = .ok (.getfield 56, 3) := by decide +kernel
theorem dX11_count_92 : decode cX11_count 92 = .ok (.getfield 189, 3) := by decide +kernel
theorem dX11_count_95 : decode cX11_count 95 = .ok (.ireturn, 1) := by decide +kernel
theorem dX11_count_96 : decode cX11_count 96 = .ok (.aload_n 0, 1) := by decide +kernel
theorem dX11_count_97 : decode cX11_count 97 = .ok (.getfield 47, 3) := by decide +kernel
theorem dX11_count_100 : decode cX11_count 100 = .ok (.getfield 192, 3) := by decide +kernel
theorem dX11_count_103 : decode cX11_count 103 = .ok (.ireturn, 1) := by decide +kernel
theorem dX11_count_104 : decode cX11_count 104 = .ok (.aload_n 0, 1) := by decide +kernel
theorem dX11_count_105 : decode cX11_count 105 = .ok (.getfield 40, 3) := by decide +kernel
theorem dX11_count_108 : decode cX11_count 108 = .ok (.getfield 193, 3) := by decide +kernel
theorem dX11_count_111 : decode cX11_count 111 = .ok (.ireturn, 1) := by decide +kernel
theorem dX11_count_112 : decode cX11_count 112 = .ok (.bipush (-102), 2) := by decide +kernel
theorem dX11_count_114 : decode cX11_count 114 = .ok (.ireturn, 1) := by decide +kernel
theorem dX11_isState_0 : decode cX11_isState 0 = .ok (.lload_n 0, 1) := by decide +kernel
theorem dX11_isState_1 : decode cX11_isState 1 = .ok (.lconst 0, 1) := by decide +kernel
theorem dX11_isState_2 : decode cX11_isState 2 = .ok (.lcmp, 1) := by decide +kernel
theorem dX11_isState_3 : decode cX11_isState 3 = .ok (.ifCond .lt 15, 3) := by decide +kernel
theorem dX11_isState_6 : decode cX11_isState 6 = .ok (.lload_n 0, 1) := by decide +kernel
theorem dX11_isState_7 : decode cX11_isState 7 = .ok (.ldc2_w 196, 3) := by decide +kernel
theorem dX11_isState_10 : decode cX11_isState 10 = .ok (.lcmp, 1) := by decide +kernel
theorem dX11_isState_11 : decode cX11_isState 11 = .ok (.ifCond .ge 7, 3) := by decide +kernel
theorem dX11_isState_14 : decode cX11_isState 14 = .ok (.iconst 1, 1) := by decide +kernel
theorem dX11_isState_15 : decode cX11_isState 15 = .ok (.goto 4, 3) := by decide +kernel
theorem dX11_isState_18 : decode cX11_isState 18 = .ok (.iconst 0, 1) := by decide +kernel
theorem dX11_isState_19 : decode cX11_isState 19 = .ok (.ireturn, 1) := by decide +kernel
theorem dX11_changed_0 : decode cX11_changed 0 = .ok (.iload_n 1, 1) := by decide +kernel
theorem dX11_changed_1 : decode cX11_changed 1 = .ok (.iconst (-1), 1) := by decide +kernel
theorem dX11_changed_2 : decode cX11_changed 2 = .ok (.if_icmp .lt 10, 3) := by decide +kernel
theorem dX11_changed_5 : decode cX11_changed 5 = .ok (.aload_n 0, 1) := by decide +kernel
theorem dX11_changed_6 : decode cX11_changed 6 = .ok (.getfield 40, 3) := by decide +kernel
theorem dX11_changed_9 : decode cX11_changed 9 = .ok (.invokevirtual 198, 3) := by decide +kernel
theorem dX11_changed_12 : decode cX11_changed 12 = .ok (.iload_n 1, 1) := by decide +kernel
theorem dX11_changed_13 : decode cX11_changed 13 = .ok (.ireturn, 1) := by decide +kernel
theorem dX1_begin_0 : decode cX1_begin 0 = .ok (.aload_n 0, 1) := by decide +kernel
theorem dX1_begin_1 : decode cX1_begin 1 = .ok (.iconst 0, 1) := by decide +kernel
theorem dX1_begin_2 : decode cX1_begin 2 = .ok (.putfield 19, 3) := by decide +kernel
theorem dX1_begin_5 : decode cX1_begin 5 = .ok (.aload_n 0, 1) := by decide +kernel
theorem dX1_begin_6 : decode cX1_begin 6 = .ok (.iconst 0, 1) := by decide +kernel
theorem dX1_begin_7 : decode cX1_begin 7 = .ok (.putfield 23, 3) := by decide +kernel
theorem dX1_begin_10 : decode cX1_begin 10 = .ok (.aload_n 0, 1) := by decide +kernel
theorem dX1_begin_11 : decode cX1_begin 11 = .ok (.lconst 0, 1) := by decide +kernel
theorem dX1_begin_12 : decode cX1_begin 12 = .ok (.iconst 0, 1) := by decide +kernel
theorem dX1_begin_13 : decode cX1_begin 13 = .ok (.invokevirtual 26, 3) := by decide +kernel
theorem dX1_begin_16 : decode cX1_begin 16 = .ok (.return_, 1) := by decide +kernel
theorem dX1_valueOf_0 : decode cX1_valueOf 0 = .ok (.aload_n 0, 1) := by decide +kernel
theorem dX1_valueOf_1 : decode cX1_valueOf 1 = .ok (.getfield 19, 3) := by decide +kernel
theorem dX1_valueOf_4 : decode cX1_valueOf 4 = .ok (.sipush 3000, 3) := by decide +kernel
theorem dX1_valueOf_7 : decode cX1_valueOf 7 = .ok (.if_icmp .ge 10, 3) := by decide +kernel
theorem dX1_valueOf_10 : decode cX1_valueOf 10 = .ok (.iload 4, 2) := by decide +kernel
theorem dX1_valueOf_12 : decode cX1_valueOf 12 = .ok (.bipush 40, 2) := by decide +kernel
theorem dX1_valueOf_14 : decode cX1_valueOf 14 = .ok (.if_icmp .lt 9, 3) := by decide +kernel
theorem dX1_valueOf_17 : decode cX1_valueOf 17 = .ok (.aload_n 0, 1) := by decide +kernel
theorem dX1_valueOf_18 : decode cX1_valueOf 18 = .ok (.iconst 4, 1) := by decide +kernel
theorem dX1_valueOf_19 : decode cX1_valueOf 19 = .ok (.invokevirtual 37, 3) := by decide +kernel
theorem dX1_valueOf_22 : decode cX1_valueOf 22 = .ok (.lreturn, 1) := by decide +kernel
theorem dX1_valueOf_23 : decode cX1_valueOf 23 = .ok (.aload_n 0, 1) := by decide +kernel
theorem dX1_valueOf_24 : decode cX1_valueOf 24 = .ok (.dup, 1) := by decide +kernel
theorem dX1_valueOf_25 : decode cX1_valueOf 25 = .ok (.getfield 19, 3) := by decide +kernel
theorem dX1_valueOf_28 : decode cX1_valueOf 28 = .ok (.iconst 1, 1) := by decide +kernel
theorem dX1_valueOf_29 : decode cX1_valueOf 29 = .ok (.iadd, 1) := by decide +kernel
theorem dX1_valueOf_30 : decode cX1_valueOf 30 = .ok (.putfield 19, 3) := by decide +kernel
theorem dX1_valueOf_33 : decode cX1_valueOf 33 = .ok (.aload_n 0, 1) := by decide +kernel
theorem dX1_valueOf_34 : decode cX1_valueOf 34 = .ok (.dup, 1) := by decide +kernel
theorem dX1_valueOf_35 : decode cX1_valueOf 35 = .ok (.getfield 41, 3) := by decide +kernel
theorem dX1_valueOf_38 : decode cX1_valueOf 38 = .ok (.iconst 1, 1) := by decide +kernel
theorem dX1_valueOf_39 : decode cX1_valueOf 39 = .ok (.iadd, 1) := by decide +kernel
theorem dX1_valueOf_40 : decode cX1_valueOf 40 = .ok (.putfield 41, 3) := by decide +kernel
theorem dX1_valueOf_43 : decode cX1_valueOf 43 = .ok (.aload_n 0, 1) := by decide +kernel
theorem dX1_valueOf_44 : decode cX1_valueOf 44 = .ok (.getfield 9, 3) := by decide +kernel
theorem dX1_valueOf_47 : decode cX1_valueOf 47 = .ok (.getfield 44, 3) := by decide +kernel
theorem dX1_valueOf_50 : decode cX1_valueOf 50 = .ok (.iload_n 1, 1) := by decide +kernel
theorem dX1_valueOf_51 : decode cX1_valueOf 51 = .ok (.iaload, 1) := by decide +kernel
theorem dX1_valueOf_52 : decode cX1_valueOf 52 = .ok (.istore 5, 2) := by decide +kernel
theorem dX1_valueOf_54 : decode cX1_valueOf 54 = .ok (.iload 5, 2) := by decide +kernel
theorem dX1_valueOf_56 : decode cX1_valueOf 56 = .ok (.bipush 8, 2) := by decide +kernel
theorem dX1_valueOf_58 : decode cX1_valueOf 58 = .ok (.if_icmp .ge 11, 3) := by decide +kernel
theorem dX1_valueOf_61 : decode cX1_valueOf 61 = .ok (.aload_n 0, 1) := by decide +kernel
theorem dX1_valueOf_62 : decode cX1_valueOf 62 = .ok (.iload_n 1, 1) := by decide +kernel
theorem dX1_valueOf_63 : decode cX1_valueOf 63 = .ok (.iload_n 2, 1) := by decide +kernel
theorem dX1_valueOf_64 : decode cX1_valueOf 64 = .ok (.iload_n 3, 1) := by decide +kernel
theorem dX1_valueOf_65 : decode cX1_valueOf 65 = .ok (.invokevirtual 50, 3) := by decide +kernel
theorem dX1_valueOf_68 : decode cX1_valueOf 68 = .ok (.lreturn, 1) := by decide +kernel
theorem dX1_valueOf_69 : decode cX1_valueOf 69 = .ok (.aload_n 0, 1) := by decide +kernel
theorem dX1_valueOf_70 : decode cX1_valueOf 70 = .ok (.aload_n 0, 1) := by decide +kernel
theorem dX1_valueOf_71 : decode cX1_valueOf 71 = .ok (.getfield 9, 3) := by decide +kernel
theorem dX1_valueOf_74 : decode cX1_valueOf 74 = .ok (.getfield 54, 3) := by decide +kernel
theorem dX1_valueOf_77 : decode cX1_valueOf 77 = .ok (.iload_n 1, 1) := by decide +kernel
theorem dX1_valueOf_78 : decode cX1_valueOf 78 = .ok (.iaload, 1) := by decide +kernel
theorem dX1_valueOf_79 : decode cX1_valueOf 79 = .ok (.iload_n 2, 1) := by decide +kernel
theorem dX1_valueOf_80 : decode cX1_valueOf 80 = .ok (.iload_n 3, 1) := by decide +kernel
theorem dX1_valueOf_81 : decode cX1_valueOf 81 = .ok (.iload 4, 2) := by decide +kernel
theorem dX1_valueOf_83 : decode cX1_valueOf 83 = .ok (.iconst 1, 1) := by decide +kernel
theorem dX1_valueOf_84 : decode cX1_valueOf 84 = .ok (.iadd, 1) := by decide +kernel
theorem dX1_valueOf_85 : decode cX1_valueOf 85 = .ok (.invokevirtual 57, 3) := by decide +kernel
theorem dX1_valueOf_88 : decode cX1_valueOf 88 = .ok (.lstore 6, 2) := by decide +kernel
theorem dX1_valueOf_90 : decode cX1_valueOf 90 = .ok (.aload_n 0, 1) := by decide +kernel
theorem dX1_valueOf_91 : decode cX1_valueOf 91 = .ok (.getfield 23, 3) := by decide +kernel
theorem dX1_valueOf_94 : decode cX1_valueOf 94 = .ok (.ifCond .eq 5, 3) := by decide +kernel
theorem dX1_valueOf_97 : decode cX1_valueOf 97 = .ok (.lconst 0, 1) := by decide +kernel
theorem dX1_valueOf_98 : decode cX1_valueOf 98 = .ok (.lreturn, 1) := by decide +kernel
theorem dX1_valueOf_99 : decode cX1_valueOf 99 = .ok (.iload 5, 2) := by decide +kernel
theorem dX1_valueOf_101 : decode cX1_valueOf 101 = .ok (.bipush 17, 2) := by decide +kernel
theorem dX1_valueOf_103 : decode cX1_valueOf 103 = .ok (.if_icmp .ne 12, 3) := by decide +kernel
theorem dX1_valueOf_106 : decode cX1_valueOf 106 = .ok (.aload_n 0, 1) := by decide +kernel
theorem dX1_valueOf_107 : decode cX1_valueOf 107 = .ok (.iload_n 2, 1) := by decide +kernel
theorem dX1_valueOf_108 : decode cX1_valueOf 108 = .ok (.lload 6, 2) := by decide +kernel
theorem dX1_valueOf_110 : decode cX1_valueOf 110 = .ok (.l2i, 1) := by decide +kernel
theorem dX1_valueOf_111 : decode cX1_valueOf 111 = .ok (.invokevirtual 61, 3) := by decide +kernel
theorem dX1_valueOf_114 : decode cX1_valueOf 114 = .ok (.lreturn, 1) := by decide +kernel
theorem dX1_valueOf_115 : decode cX1_valueOf 115 = .ok (.iload 5, 2) := by decide +kernel
theorem dX1_valueOf_117 : decode cX1_valueOf 117 = .ok (.bipush 16, 2) := by decide +kernel
theorem dX1_valueOf_119 : decode cX1_valueOf 119 = .ok (.if_icmp .ne 42, 3) := by decide +kernel
theorem dX1_valueOf_122 : decode cX1_valueOf 122 = .ok (.aload_n 0, 1) := by decide +kernel
theorem dX1_valueOf_123 : decode cX1_valueOf 123 = .ok (.lload 6, 2) := by decide +kernel
theorem dX1_valueOf_125 : decode cX1_valueOf 125 = .ok (.lconst 0, 1) := by decide +kernel
theorem dX1_valueOf_126 : decode cX1_valueOf 126 = .ok (.lcmp, 1) := by decide +kernel
theorem dX1_valueOf_127 : decode cX1_valueOf 127 = .ok (.ifCond .eq 15, 3) := by decide +kernel
theorem dX1_valueOf_130 : decode cX1_valueOf 130 = .ok (.aload_n 0, 1) := by decide +kernel
theorem dX1_valueOf_131 : decode cX1_valueOf 131 = .ok (.getfield 9, 3) := by decide +kernel
theorem dX1_valueOf_134 : decode cX1_valueOf 134 = .ok (.getfield 65, 3) := by decide +kernel
theorem dX1_valueOf_137 : decode cX1_valueOf 137 = .ok (.iload_n 1, 1) := by decide +kernel
theorem dX1_valueOf_138 : decode cX1_valueOf 138 = .ok (.iaload, 1) := by decide +kernel
theorem dX1_valueOf_139 : decode cX1_valueOf 139 = .ok (.goto 12, 3) := by decide +kernel
theorem dX1_valueOf_142 : decode cX1_valueOf 142 = .ok (.aload_n 0, 1) := by decide +kernel
theorem dX1_valueOf_143 : decode cX1_valueOf 143 = .ok (.getfield 9, 3) := by decide +kernel
theorem dX1_valueOf_146 : decode cX1_valueOf 146 = .ok (.getfield 68, 3) := by decide +kernel
theorem dX1_valueOf_149 : decode cX1_valueOf 149 = .ok (.iload_n 1, 1) := by decide +kernel
theorem dX1_valueOf_150 : decode cX1_valueOf 150 = .ok (.iaload, 1) := by decide +kernel
theorem dX1_valueOf_151 : decode cX1_valueOf 151 = .ok (.iload_n 2, 1) := by decide +kernel
theorem dX1_valueOf_152 : decode cX1_valueOf 152 = .ok (.iload_n 3, 1) := by decide +kernel
theorem dX1_valueOf_153 : decode cX1_valueOf 153 = .ok (.iload 4, 2) := by decide +kernel
theorem dX1_valueOf_155 : decode cX1_valueOf 155 = .ok (.iconst 1, 1) := by decide +kernel
theorem dX1_valueOf_156 : decode cX1_valueOf 156 = .ok (.iadd, 1) := by decide +kernel
theorem dX1_valueOf_157 : decode cX1_valueOf 157 = .ok (.invokevirtual 57, 3) := by decide +kernel
theorem dX1_valueOf_160 : decode cX1_valueOf 160 = .ok (.lreturn, 1) := by decide +kernel
theorem dX1_valueOf_161 : decode cX1_valueOf 161 = .ok (.aload_n 0, 1) := by decide +kernel
theorem dX1_valueOf_162 : decode cX1_valueOf 162 = .ok (.aload_n 0, 1) := by decide +kernel
theorem dX1_valueOf_163 : decode cX1_valueOf 163 = .ok (.getfield 9, 3) := by decide +kernel
theorem dX1_valueOf_166 : decode cX1_valueOf 166 = .ok (.getfield 65, 3) := by decide +kernel
theorem dX1_valueOf_169 : decode cX1_valueOf 169 = .ok (.iload_n 1, 1) := by decide +kernel
theorem dX1_valueOf_170 : decode cX1_valueOf 170 = .ok (.iaload, 1) := by decide +kernel
theorem dX1_valueOf_171 : decode cX1_valueOf 171 = .ok (.iload_n 2, 1) := by decide +kernel
theorem dX1_valueOf_172 : decode cX1_valueOf 172 = .ok (.iload_n 3, 1) := by decide +kernel
theorem dX1_valueOf_173 : decode cX1_valueOf 173 = .ok (.iload 4, 2) := by decide +kernel
theorem dX1_valueOf_175 : decode cX1_valueOf 175 = .ok (.iconst 1, 1) := by decide +kernel
theorem dX1_valueOf_176 : decode cX1_valueOf 176 = .ok (.iadd, 1) := by decide +kernel
theorem dX1_valueOf_177 : decode cX1_valueOf 177 = .ok (.invokevirtual 57, 3) := by decide +kernel
theorem dX1_valueOf_180 : decode cX1_valueOf 180 = .ok (.lstore 8, 2) := by decide +kernel
theorem dX1_valueOf_182 : decode cX1_valueOf 182 = .ok (.aload_n 0, 1) := by decide +kernel
theorem dX1_valueOf_183 : decode cX1_valueOf 183 = .ok (.getfield 23, 3) := by decide +kernel
theorem dX1_valueOf_186 : decode cX1_valueOf 186 = .ok (.ifCond .eq 5, 3) := by decide +kernel
theorem dX1_valueOf_189 : decode cX1_valueOf 189 = .ok (.lconst 0, 1) := by decide +kernel
theorem dX1_valueOf_190 : decode cX1_valueOf 190 = .ok (.lreturn, 1) := by decide +kernel
theorem dX1_valueOf_191 : decode cX1_valueOf 191 = .ok (.aload_n 0, 1) := by decide +kernel
theorem dX1_valueOf_192 : decode cX1_valueOf 192 = .ok (.iload 5, 2) := by decide +kernel
theorem dX1_valueOf_194 : decode cX1_valueOf 194 = .ok (.lload 6, 2) := by decide +kernel
theorem dX1_valueOf_196 : decode cX1_valueOf 196 = .ok (.lload 8, 2) := by decide +kernel
theorem dX1_valueOf_198 : decode cX1_valueOf 198 = .ok (.invokevirtual 71, 3) := by decide +kernel
theorem dX1_valueOf_201 : decode cX1_valueOf 201 = .ok (.lreturn, 1) := by decide +kernel
def rm_cX10_hasArc : Room := { frames := 0, cells := 0, slots := 0, locals := 0 }
def G_cX10_hasArc (p : Program) (l : Launch) (e : Env) (s : State) (m : MethodId) (args : Array Value) (below : List Frame) (meth : Method) (c : Code) (dC : Nat → ClassId) (dI : Nat → Nat → Nat) (kA : Nat → ClassId) (ad : Nat → Nat) (res : Int32 × RS) (F : RS → Int32 → Option (Int32 × RS)) : Prop := ∀ (σ : RS) (x1 : Int32), F σ x1 = some res → ∀ (H : Heap) (locs : List Loc) (ls : Array Slot), va_P (dC, dI) vwCl (c_w kA ad σ) H → va_S (jw_A 57 ad) s.heap H locs → lv_has ls 2 [(0, .ref (ad 7)), (1, .int x1)] → W p l e rm_cX10_hasArc s m args below meth c H locs 0 0 (c_Qi below dC dI kA ad args s res) (F0 m 0 ls [])
def s_cX10_hasArc (σ : RS) (x1 : Int32) : Option (Int32 × RS) := if x1 < 0 then (some (0, σ)) else (if (rg_I σ 3) ≤ x1 then (some (0, σ)) else (some (1, σ)))
set_option maxRecDepth 100000 in
set_option maxHeartbeats 4000000 in
theorem p_cX10_hasArc {p : Program} {l : Launch} {e : Env} {s : State} {m : MethodId} {args : Array Value} {below : List Frame} {meth : Method} {c : Code} {dC : Nat → ClassId} {dI : Nat → Nat → Nat} {kA : Nat → ClassId} {ad : Nat → Nat} (C : jxc cX10_hasArc (some .boolean) 2 RX10 p s m args meth c dC dI kA) (hap : jw_ap 57 ad) {res : Int32 × RS} : G_cX10_hasArc p l e s m args below meth c dC dI kA ad res (s_cX10_hasArc) := by
  obtain ⟨hx, hb, hml, hown, hts, hr, hlocks, hK, hN⟩ := id C
  intro σ x1 hf H locs ls hP hS hl
  unfold s_cX10_hasArc at hf
  refine lv_iload_n hx hb dX10_hasArc_0 rfl (lv_at hl 1 rfl) ?_
  refine jb_lt (tgt := 16) hx hb hf dX10_hasArc_1 (by decide) (fun hf => ?_) (fun hf => ?_)
  · refine lv_iconst (v := 0) hx hb dX10_hasArc_16 (by decide) ?_
    exact jr_i hx hb hr hlocks hf (by decide) hP hS dX10_hasArc_17
  · refine lv_iload_n hx hb dX10_hasArc_4 rfl (lv_at hl 1 rfl) ?_
    refine lv_aload_n hx hb dX10_hasArc_5 rfl (lv_at hl 0 rfl) ?_
    refine c_gX10_arcs hx hb hts hown hK hP (hts _ kw_139) dX10_hasArc_6 ?_
    refine jc_ge (tgt := 16) hx hb hf dX10_hasArc_9 (by decide) (fun hf => ?_) (fun hf => ?_)
    · refine lv_iconst (v := 0) hx hb dX10_hasArc_16 (by decide) ?_
      exact jr_i hx hb hr hlocks hf (by decide) hP hS dX10_hasArc_17
    · refine lv_iconst (v := 1) hx hb dX10_hasArc_12 (by decide) ?_
      refine lv_goto (tgt := 17) hx hb dX10_hasArc_13 (by decide) ?_
      exact jr_i hx hb hr hlocks hf (by decide) hP hS dX10_hasArc_17
theorem c_cX10_hasArc (l : Launch) {dC : Nat → ClassId} {dI : Nat → Nat → Nat} {kA : Nat → ClassId} {ad : Nat → Nat} (hap : jw_ap 57 ad) (σ : RS) (x1 : Int32) (res : Int32 × RS) (hf : s_cX10_hasArc σ x1 = some res) : jm_i l KW NW (dC, dI) vwCl (jtys kA) (jw_A 57 ad) (c_w kA ad) yX10_hasArc cX10_hasArc 2 .boolean (rm_cX10_hasArc) [.ref (ad 7), .int x1] σ res := jm_i_of (by decide) (Nat.le_of_ble_eq_true rfl) (fun p e s m below meth c C hP hS ls hl => p_cX10_hasArc C hap σ x1 hf s.heap [] ls hP hS hl)

def rm_cX10_addNode : Room := { frames := 0, cells := 0, slots := 0, locals := 0 }
def G_cX10_addNode (p : Program) (l : Launch) (e : Env) (s : State) (m : MethodId) (args : Array Value) (below : List Frame) (meth : Method) (c : Code) (dC : Nat → ClassId) (dI : Nat → Nat → Nat) (kA : Nat → ClassId) (ad : Nat → Nat) (res : Int32 × RS) (F : RS → Option (Int32 × RS)) : Prop := ∀ (σ : RS), F σ = some res → ∀ (H : Heap) (locs : List Loc) (ls : Array Slot), va_P (dC, dI) vwCl (c_w kA ad σ) H → va_S (jw_A 57 ad) s.heap H locs → lv_has ls 1 [(0, .ref (ad 7))] → W p l e rm_cX10_addNode s m args below meth c H locs 0 0 (c_Qi below dC dI kA ad args s res) (F0 m 0 ls [])
def s_cX10_addNode (σ : RS) : Option (Int32 × RS) := if (rg_I σ 2) < 12 then (kn_st (rs_A σ 4 (upd (rg_A σ 4) (rg_I σ 2).toNatClampNeg 1)) 12 (rg_I σ 2) (fun σ1 => kn_v (rs_I σ1 2 ((rg_I σ1 2) + 1)) (fun σ2 => some ((rg_I σ2 2) - 1, σ2)))) else (some ((-103), σ))
set_option maxRecDepth 100000 in
set_option maxHeartbeats 4000000 in
theorem p_cX10_addNode {p : Program} {l : Launch} {e : Env} {s : State} {m : MethodId} {args : Array Value} {below : List Frame} {meth : Method} {c : Code} {dC : Nat → ClassId} {dI : Nat → Nat → Nat} {kA : Nat → ClassId} {ad : Nat → Nat} (C : jxc cX10_addNode (some .int) 1 RX10 p s m args meth c dC dI kA) (hap : jw_ap 57 ad) {res : Int32 × RS} : G_cX10_addNode p l e s m args below meth c dC dI kA ad res (s_cX10_addNode) := by
  obtain ⟨hx, hb, hml, hown, hts, hr, hlocks, hK, hN⟩ := id C
  intro σ hf H locs ls hP hS hl
  unfold s_cX10_addNode at hf
  refine lv_aload_n hx hb dX10_addNode_0 rfl (lv_at hl 0 rfl) ?_
  refine c_gX10_nodes hx hb hts hown hK hP (hts _ kw_135) dX10_addNode_1 ?_
  refine lv_bipush (v := 12) hx hb dX10_addNode_4 (by decide) ?_
  refine jc_lt (tgt := 12) hx hb hf dX10_addNode_6 (by decide) (fun hf => ?_) (fun hf => ?_)
  · refine lv_aload_n hx hb dX10_addNode_12 rfl (lv_at hl 0 rfl) ?_
    refine c_gX10_awake hx hb hts hown hK hP (hts _ kw_120) dX10_addNode_13 ?_
    refine lv_aload_n hx hb dX10_addNode_16 rfl (lv_at hl 0 rfl) ?_
    refine c_gX10_nodes hx hb hts hown hK hP (hts _ kw_135) dX10_addNode_17 ?_
    refine lv_iconst (v := 1) hx hb dX10_addNode_20 (by decide) ?_
    refine ja_zst hx hb hK (c_D hap σ) hP hS 9 2 rfl rfl (by decide) c_sA4 hf dX10_addNode_21 (fun σ1 H locs hP hS hf => ?_)
    refine lv_aload_n hx hb dX10_addNode_22 rfl (lv_at hl 0 rfl) ?_
    refine lv_dup hx hb dX10_addNode_23 rfl ?_
    refine c_gX10_nodes hx hb hts hown hK hP (hts _ kw_135) dX10_addNode_24 ?_
    refine lv_iconst (v := 1) hx hb dX10_addNode_27 (by decide) ?_
    refine lv_iadd hx hb dX10_addNode_28 ?_
    refine c_pX10_nodes hx hb hts hown hK hap hP hS hf (hts _ kw_135) dX10_addNode_29 (fun σ2 H locs hP hS hf => ?_)
    refine lv_aload_n hx hb dX10_addNode_32 rfl (lv_at hl 0 rfl) ?_
    refine c_gX10_nodes hx hb hts hown hK hP (hts _ kw_135) dX10_addNode_33 ?_
    refine lv_iconst (v := 1) hx hb dX10_addNode_36 (by decide) ?_
    refine lv_isub hx hb dX10_addNode_37 ?_
    exact jr_i hx hb hr hlocks hf rfl hP hS dX10_addNode_38
  · refine lv_bipush (v := (-103)) hx hb dX10_addNode_9 (by decide) ?_
    exact jr_i hx hb hr hlocks hf rfl hP hS dX10_addNode_11
theorem c_cX10_addNode (l : Launch) {dC : Nat → ClassId} {dI : Nat → Nat → Nat} {kA : Nat → ClassId} {ad : Nat → Nat} (hap : jw_ap 57 ad) (σ : RS) (res : Int32 × RS) (hf : s_cX10_addNode σ = some res) : jm_i l KW NW (dC, dI) vwCl (jtys kA) (jw_A 57 ad) (c_w kA ad) yX10_addNode cX10_addNode 1 .int (rm_cX10_addNode) [.ref (ad 7)] σ res := jm_i_of (by decide) (Nat.le_of_ble_eq_true rfl) (fun p e s m below meth c C hP hS ls hl => p_cX10_addNode C hap σ hf s.heap [] ls hP hS hl)

def rm_cX10_addArc : Room := { frames := 1, cells := 0, slots := 0, locals := 21 }
def G_cX10_addArc (p : Program) (l : Launch) (e : Env) (s : State) (m : MethodId) (args : Array Value) (below : List Frame) (meth : Method) (c : Code) (dC : Nat → ClassId) (dI : Nat → Nat → Nat) (kA : Nat → ClassId) (ad : Nat → Nat) (res : Int32 × RS) (F : RS → Int32 → Int32 → Int64 → Option (Int32 × RS)) : Prop := ∀ (σ : RS) (x1 : Int32) (x2 : Int32) (x3 : Int64), F σ x1 x2 x3 = some res → ∀ (H : Heap) (locs : List Loc) (ls : Array Slot), va_P (dC, dI) vwCl (c_w kA ad σ) H → va_S (jw_A 57 ad) s.heap H locs → lv_has ls 5 [(0, .ref (ad 7)), (1, .int x1), (2, .int x2), (3, .long x3)] → W p l e rm_cX10_addArc s m args below meth c H locs 0 0 (c_Qi below dC dI kA ad args s res) (F0 m 0 ls [])
def s_cX10_addArc (σ : RS) (x1 : Int32) (x2 : Int32) (x3 : Int64) : Option (Int32 × RS) := kn_i (s_cX10_hasNode σ x1) (fun v1 σ2 => if v1 = 0 then (some ((-101), σ2)) else (kn_i (s_cX10_hasNode σ2 x2) (fun v3 σ4 => if v3 = 0 then (some ((-101), σ4)) else (if (rg_I σ4 3) < 40 then (kn_st (rs_A σ4 6 (upd (rg_A σ4 6) (rg_I σ4 3).toNatClampNeg x1)) 40 (rg_I σ4 3) (fun σ5 => kn_st (rs_A σ5 7 (upd (rg_A σ5 7) (rg_I σ5 3).toNatClampNeg x2)) 40 (rg_I σ5 3) (fun σ6 => kn_st (rs_B σ6 2 (vp_updL (rg_B σ6 2) (rg_I σ6 3).toNatClampNeg x3)) 40 (rg_I σ6 3) (fun σ7 => kn_ld (rg_A σ7 5) 12 x1 (fun v8 => kn_st (rs_A σ7 5 (upd (rg_A σ7 5) x1.toNatClampNeg (v8 + 1))) 12 x1 (fun σ9 => kn_v (rs_I σ9 3 ((rg_I σ9 3) + 1)) (fun σ10 => some ((rg_I σ10 3) - 1, σ10)))))))) else (some ((-103), σ4))))))
set_option maxRecDepth 100000 in
set_option maxHeartbeats 4000000 in
theorem p_cX10_addArc {p : Program} {l : Launch} {e : Env} {s : State} {m : MethodId} {args : Array Value} {below : List Frame} {meth : Method} {c : Code} {dC : Nat → ClassId} {dI : Nat → Nat → Nat} {kA : Nat → ClassId} {ad : Nat → Nat} (C : jxc cX10_addArc (some .int) 5 RX10 p s m args meth c dC dI kA) (hap : jw_ap 57 ad) {res : Int32 × RS} : G_cX10_addArc p l e s m args below meth c dC dI kA ad res (s_cX10_addArc) := by
  obtain ⟨hx, hb, hml, hown, hts, hr, hlocks, hK, hN⟩ := id C
  intro σ x1 x2 x3 hf H locs ls hP hS hl
  unfold s_cX10_addArc at hf
  refine lv_aload_n hx hb dX10_addArc_0 rfl (lv_at hl 0 rfl) ?_
  refine lv_iload_n hx hb dX10_addArc_1 rfl (lv_at hl 1 rfl) ?_
  refine jk_i hf (fun res hres => jv_run hx hb hml hown hts hK hN c_hG c_hNW hl.1 (n := 1) (As := [.int x1]) (rest := []) (c_cX10_hasNode l hap σ x1 res hres) hP (ci := 10) (q0 := 7) rfl rfl rfl kw_489 kw_486 kw_487 kw_488 kw_54 ⟨rfl, rfl⟩ (by decide +kernel) rfl ⟨Nat.le_of_ble_eq_true rfl, Nat.le_of_ble_eq_true rfl⟩ rfl (Nat.le_of_ble_eq_true rfl) dX10_addArc_2) hS (fun v1 σ2 H locs hP hS hf => ?_)
  refine jb_eq (tgt := 16) hx hb hf dX10_addArc_5 (by decide) (fun hf => ?_) (fun hf => ?_)
  · refine lv_bipush (v := (-101)) hx hb dX10_addArc_16 (by decide) ?_
    exact jr_i hx hb hr hlocks hf rfl hP hS dX10_addArc_18
  · refine lv_aload_n hx hb dX10_addArc_8 rfl (lv_at hl 0 rfl) ?_
    refine lv_iload_n hx hb dX10_addArc_9 rfl (lv_at hl 2 rfl) ?_
    refine jk_i hf (fun res hres => jv_run hx hb hml hown hts hK hN c_hG c_hNW hl.1 (n := 1) (As := [.int x2]) (rest := []) (c_cX10_hasNode l hap σ2 x2 res hres) hP (ci := 10) (q0 := 7) rfl rfl rfl kw_489 kw_486 kw_487 kw_488 kw_54 ⟨rfl, rfl⟩ (by decide +kernel) rfl ⟨Nat.le_of_ble_eq_true rfl, Nat.le_of_ble_eq_true rfl⟩ rfl (Nat.le_of_ble_eq_true rfl) dX10_addArc_10) hS (fun v3 σ4 H locs hP hS hf => ?_)
    refine jb_ne (tgt := 19) hx hb hf dX10_addArc_13 (by decide) (fun hf => ?_) (fun hf => ?_)
    · refine lv_aload_n hx hb dX10_addArc_19 rfl (lv_at hl 0 rfl) ?_
      refine c_gX10_arcs hx hb hts hown hK hP (hts _ kw_139) dX10_addArc_20 ?_
      refine lv_bipush (v := 40) hx hb dX10_addArc_23 (by decide) ?_
      refine jc_lt (tgt := 31) hx hb hf dX10_addArc_25 (by decide) (fun hf => ?_) (fun hf => ?_)
      · refine lv_aload_n hx hb dX10_addArc_31 rfl (lv_at hl 0 rfl) ?_
        refine c_gX10_from hx hb hts hown hK hP (hts _ kw_127) dX10_addArc_32 ?_
        refine lv_aload_n hx hb dX10_addArc_35 rfl (lv_at hl 0 rfl) ?_
        refine c_gX10_arcs hx hb hts hown hK hP (hts _ kw_139) dX10_addArc_36 ?_
        refine lv_iload_n hx hb dX10_addArc_39 rfl (lv_at hl 1 rfl) ?_
        refine ja_ist hx hb hK (c_D hap σ4) hP hS 11 0 rfl rfl c_sA6 hf dX10_addArc_40 (fun σ5 H locs hP hS hf => ?_)
        refine lv_aload_n hx hb dX10_addArc_41 rfl (lv_at hl 0 rfl) ?_
        refine c_gX10_to hx hb hts hown hK hP (hts _ kw_130) dX10_addArc_42 ?_
        refine lv_aload_n hx hb dX10_addArc_45 rfl (lv_at hl 0 rfl) ?_
        refine c_gX10_arcs hx hb hts hown hK hP (hts _ kw_139) dX10_addArc_46 ?_
        refine lv_iload_n hx hb dX10_addArc_49 rfl (lv_at hl 2 rfl) ?_
        refine ja_ist hx hb hK (c_D hap σ5) hP hS 12 0 rfl rfl c_sA7 hf dX10_addArc_50 (fun σ6 H locs hP hS hf => ?_)
        refine lv_aload_n hx hb dX10_addArc_51 rfl (lv_at hl 0 rfl) ?_
        refine c_gX10_weights hx hb hts hown hK hP (hts _ kw_133) dX10_addArc_52 ?_
        refine lv_aload_n hx hb dX10_addArc_55 rfl (lv_at hl 0 rfl) ?_
        refine c_gX10_arcs hx hb hts hown hK hP (hts _ kw_139) dX10_addArc_56 ?_
        refine lv_lload_n hx hb dX10_addArc_59 rfl (lv_at hl 3 rfl) ?_
        refine ja_lst hx hb hK (c_D hap σ6) hP hS 13 1 rfl rfl c_sB2 hf dX10_addArc_60 (fun σ7 H locs hP hS hf => ?_)
        refine lv_aload_n hx hb dX10_addArc_61 rfl (lv_at hl 0 rfl) ?_
        refine c_gX10_degrees hx hb hts hown hK hP (hts _ kw_125) dX10_addArc_62 ?_
        refine lv_iload_n hx hb dX10_addArc_65 rfl (lv_at hl 1 rfl) ?_
        refine lv_dup2_11 hx hb dX10_addArc_66 rfl rfl ?_
        refine ja_ild hx hb hK hP 10 0 rfl rfl hf dX10_addArc_67 (fun v8 hf => ?_)
        refine lv_iconst (v := 1) hx hb dX10_addArc_68 (by decide) ?_
        refine lv_iadd hx hb dX10_addArc_69 ?_
        refine ja_ist hx hb hK (c_D hap σ7) hP hS 10 0 rfl rfl c_sA5 hf dX10_addArc_70 (fun σ9 H locs hP hS hf => ?_)
        refine lv_aload_n hx hb dX10_addArc_71 rfl (lv_at hl 0 rfl) ?_
        refine lv_dup hx hb dX10_addArc_72 rfl ?_
        refine c_gX10_arcs hx hb hts hown hK hP (hts _ kw_139) dX10_addArc_73 ?_
        refine lv_iconst (v := 1) hx hb dX10_addArc_76 (by decide) ?_
        refine lv_iadd hx hb dX10_addArc_77 ?_
        refine c_pX10_arcs hx hb hts hown hK hap hP hS hf (hts _ kw_139) dX10_addArc_78 (fun σ10 H locs hP hS hf => ?_)
        refine lv_aload_n hx hb dX10_addArc_81 rfl (lv_at hl 0 rfl) ?_
        refine c_gX10_arcs hx hb hts hown hK hP (hts _ kw_139) dX10_addArc_82 ?_
        refine lv_iconst (v := 1) hx hb dX10_addArc_85 (by decide) ?_
        refine lv_isub hx hb dX10_addArc_86 ?_
        exact jr_i hx hb hr hlocks hf rfl hP hS dX10_addArc_87
      · refine lv_bipush (v := (-103)) hx hb dX10_addArc_28 (by decide) ?_
        exact jr_i hx hb hr hlocks hf rfl hP hS dX10_addArc_30
    · refine lv_bipush (v := (-101)) hx hb dX10_addArc_16 (by decide) ?_
      exact jr_i hx hb hr hlocks hf rfl hP hS dX10_addArc_18
theorem c_cX10_addArc (l : Launch) {dC : Nat → ClassId} {dI : Nat → Nat → Nat} {kA : Nat → ClassId} {ad : Nat → Nat} (hap : jw_ap 57 ad) (σ : RS) (x1 : Int32) (x2 : Int32) (x3 : Int64) (res : Int32 × RS) (hf : s_cX10_addArc σ x1 x2 x3 = some res) : jm_i l KW NW (dC, dI) vwCl (jtys kA) (jw_A 57 ad) (c_w kA ad) yX10_addArc cX10_addArc 5 .int (rm_cX10_addArc) [.ref (ad 7), .int x1, .int x2, .long x3] σ res := jm_i_of (by decide) (Nat.le_of_ble_eq_true rfl) (fun p e s m below meth c C hP hS ls hl => p_cX10_addArc C hap σ x1 x2 x3 hf s.heap [] ls hP hS hl)

def rm_cX10_awakeNodes : Room := { frames := 0, cells := 0, slots := 0, locals := 0 }
def G_cX10_awakeNodes_b24 (p : Program) (l : Launch) (e : Env) (s : State) (m : MethodId) (args : Array Value) (below : List Frame) (meth : Method) (c : Code) (dC : Nat → ClassId) (dI : Nat → Nat → Nat) (kA : Nat → ClassId) (ad : Nat → Nat) (res : Int32 × RS) (F : RS → Int32 → Int32 → Option (Int32 × RS)) : Prop := ∀ (σ : RS) (x1 : Int32) (x2 : Int32), F σ x1 x2 = some res → ∀ (H : Heap) (locs : List Loc) (ls : Array Slot), va_P (dC, dI) vwCl (c_w kA ad σ) H → va_S (jw_A 57 ad) s.heap H locs → lv_has ls 3 [(0, .ref (ad 7)), (1, .int x1), (2, .int x2)] → W p l e rm_cX10_awakeNodes s m args below meth c H locs 0 0 (c_Qi below dC dI kA ad args s res) (F0 m 24 ls [])
def G_cX10_awakeNodes_b4 (p : Program) (l : Launch) (e : Env) (s : State) (m : MethodId) (args : Array Value) (below : List Frame) (meth : Method) (c : Code) (dC : Nat → ClassId) (dI : Nat → Nat → Nat) (kA : Nat → ClassId) (ad : Nat → Nat) (res : Int32 × RS) (F : RS → Int32 → Int32 → Option (Int32 × RS)) : Prop := ∀ (σ : RS) (x1 : Int32) (x2 : Int32), F σ x1 x2 = some res → ∀ (H : Heap) (locs : List Loc) (ls : Array Slot), va_P (dC, dI) vwCl (c_w kA ad σ) H → va_S (jw_A 57 ad) s.heap H locs → lv_has ls 3 [(0, .ref (ad 7)), (1, .int x1), (2, .int x2)] → W p l e rm_cX10_awakeNodes s m args below meth c H locs 0 0 (c_Qi below dC dI kA ad args s res) (F0 m 4 ls [])
def G_cX10_awakeNodes (p : Program) (l : Launch) (e : Env) (s : State) (m : MethodId) (args : Array Value) (below : List Frame) (meth : Method) (c : Code) (dC : Nat → ClassId) (dI : Nat → Nat → Nat) (kA : Nat → ClassId) (ad : Nat → Nat) (res : Int32 × RS) (F : RS → Option (Int32 × RS)) : Prop := ∀ (σ : RS), F σ = some res → ∀ (H : Heap) (locs : List Loc) (ls : Array Slot), va_P (dC, dI) vwCl (c_w kA ad σ) H → va_S (jw_A 57 ad) s.heap H locs → lv_has ls 3 [(0, .ref (ad 7))] → W p l e rm_cX10_awakeNodes s m args below meth c H locs 0 0 (c_Qi below dC dI kA ad args s res) (F0 m 0 ls [])
def s_cX10_awakeNodes_b24 (k4 : RS → Int32 → Int32 → Option (Int32 × RS)) (σ : RS) (x1 : Int32) (x2 : Int32) : Option (Int32 × RS) := kn_v (x2 + 1) (fun v1 => k4 σ x1 v1)
set_option maxRecDepth 100000 in
set_option maxHeartbeats 4000000 in
theorem p_cX10_awakeNodes_b24 {p : Program} {l : Launch} {e : Env} {s : State} {m : MethodId} {args : Array Value} {below : List Frame} {meth : Method} {c : Code} {dC : Nat → ClassId} {dI : Nat → Nat → Nat} {kA : Nat → ClassId} {ad : Nat → Nat} (C : jxc cX10_awakeNodes (some .int) 3 RX10 p s m args meth c dC dI kA) (hap : jw_ap 57 ad) {res : Int32 × RS} {k4 : RS → Int32 → Int32 → Option (Int32 × RS)} (hk4 : G_cX10_awakeNodes_b4 p l e s m args below meth c dC dI kA ad res k4) : G_cX10_awakeNodes_b24 p l e s m args below meth c dC dI kA ad res (s_cX10_awakeNodes_b24 k4) := by
  obtain ⟨hx, hb, hml, hown, hts, hr, hlocks, hK, hN⟩ := id C
  intro σ x1 x2 hf H locs ls hP hS hl
  unfold s_cX10_awakeNodes_b24 at hf
  obtain ⟨v1, e_v1, hf⟩ := kn_v_e hf
  refine lv_iinc (v := v1) (lv' := [(2, .int v1), (0, .ref (ad 7)), (1, .int x1)]) hx hb dX10_awakeNodes_24 hl (k := 2) rfl e_v1 (by decide) rfl (fun ls hl => ?_)
  refine lv_goto (tgt := 4) hx hb dX10_awakeNodes_27 (by decide) ?_
  exact hk4 σ x1 v1 hf H locs ls hP hS (lv_sub hl [1, 2, 0] rfl)
def s_cX10_awakeNodes_b4 (k4 : RS → Int32 → Int32 → Option (Int32 × RS)) (σ : RS) (x1 : Int32) (x2 : Int32) : Option (Int32 × RS) := if (rg_I σ 2) ≤ x2 then (some (x1, σ)) else (kn_ld (rg_A σ 4) 12 x2 (fun v1 => if v1 = 0 then (s_cX10_awakeNodes_b24 k4 σ x1 x2) else (kn_v (x1 + 1) (fun v2 => s_cX10_awakeNodes_b24 k4 σ v2 x2))))
set_option maxRecDepth 100000 in
set_option maxHeartbeats 4000000 in
theorem p_cX10_awakeNodes_b4 {p : Program} {l : Launch} {e : Env} {s : State} {m : MethodId} {args : Array Value} {below : List Frame} {meth : Method} {c : Code} {dC : Nat → ClassId} {dI : Nat → Nat → Nat} {kA : Nat → ClassId} {ad : Nat → Nat} (C : jxc cX10_awakeNodes (some .int) 3 RX10 p s m args meth c dC dI kA) (hap : jw_ap 57 ad) {res : Int32 × RS} {k4 : RS → Int32 → Int32 → Option (Int32 × RS)} (hk4 : G_cX10_awakeNodes_b4 p l e s m args below meth c dC dI kA ad res k4) : G_cX10_awakeNodes_b4 p l e s m args below meth c dC dI kA ad res (s_cX10_awakeNodes_b4 k4) := by
  obtain ⟨hx, hb, hml, hown, hts, hr, hlocks, hK, hN⟩ := id C
  intro σ x1 x2 hf H locs ls hP hS hl
  unfold s_cX10_awakeNodes_b4 at hf
  refine lv_iload_n hx hb dX10_awakeNodes_4 rfl (lv_at hl 2 rfl) ?_
  refine lv_aload_n hx hb dX10_awakeNodes_5 rfl (lv_at hl 0 rfl) ?_
  refine c_gX10_nodes hx hb hts hown hK hP (hts _ kw_135) dX10_awakeNodes_6 ?_
  refine jc_ge (tgt := 30) hx hb hf dX10_awakeNodes_9 (by decide) (fun hf => ?_) (fun hf => ?_)
  · refine lv_iload_n hx hb dX10_awakeNodes_30 rfl (lv_at hl 1 rfl) ?_
    exact jr_i hx hb hr hlocks hf rfl hP hS dX10_awakeNodes_31
  · refine lv_aload_n hx hb dX10_awakeNodes_12 rfl (lv_at hl 0 rfl) ?_
    refine c_gX10_awake hx hb hts hown hK hP (hts _ kw_120) dX10_awakeNodes_13 ?_
    refine lv_iload_n hx hb dX10_awakeNodes_16 rfl (lv_at hl 2 rfl) ?_
    refine ja_zld hx hb hK hP 9 2 rfl rfl hf dX10_awakeNodes_17 (fun v1 hf => ?_)
    refine jb_eq (tgt := 24) hx hb hf dX10_awakeNodes_18 (by decide) (fun hf => ?_) (fun hf => ?_)
    · exact (p_cX10_awakeNodes_b24 C hap hk4) σ x1 x2 hf H locs ls hP hS (lv_sub hl [0, 1, 2] rfl)
    · obtain ⟨v2, e_v2, hf⟩ := kn_v_e hf
      refine lv_iinc (v := v2) (lv' := [(1, .int v2), (0, .ref (ad 7)), (2, .int x2)]) hx hb dX10_awakeNodes_21 hl (k := 1) rfl e_v2 (by decide) rfl (fun ls hl => ?_)
      exact (p_cX10_awakeNodes_b24 C hap hk4) σ v2 x2 hf H locs ls hP hS (lv_sub hl [1, 0, 2] rfl)
def f_cX10_awakeNodes_b4 : RS → Int32 → Int32 → Option (Int32 × RS) := kn_fix (fun _ _ _ => none) (s_cX10_awakeNodes_b4) FU
theorem q_cX10_awakeNodes_b4 {p : Program} {l : Launch} {e : Env} {s : State} {m : MethodId} {args : Array Value} {below : List Frame} {meth : Method} {c : Code} {dC : Nat → ClassId} {dI : Nat → Nat → Nat} {kA : Nat → ClassId} {ad : Nat → Nat} (C : jxc cX10_awakeNodes (some .int) 3 RX10 p s m args meth c dC dI kA) (hap : jw_ap 57 ad) {res : Int32 × RS} : G_cX10_awakeNodes_b4 p l e s m args below meth c dC dI kA ad res (f_cX10_awakeNodes_b4) := kn_fix_ind (G := fun F => G_cX10_awakeNodes_b4 p l e s m args below meth c dC dI kA ad res F) (fun _ _ _ hf => by cases hf) (fun k4 hk4 => p_cX10_awakeNodes_b4 C hap hk4) FU
def s_cX10_awakeNodes (σ : RS) : Option (Int32 × RS) := f_cX10_awakeNodes_b4 σ 0 0
set_option maxRecDepth 100000 in
set_option maxHeartbeats 4000000 in
theorem p_cX10_awakeNodes {p : Program} {l : Launch} {e : Env} {s : State} {m : MethodId} {args : Array Value} {below : List Frame} {meth : Method} {c : Code} {dC : Nat → ClassId} {dI : Nat → Nat → Nat} {kA : Nat → ClassId} {ad : Nat → Nat} (C : jxc cX10_awakeNodes (some .int) 3 RX10 p s m args meth c dC dI kA) (hap : jw_ap 57 ad) {res : Int32 × RS} : G_cX10_awakeNodes p l e s m args below meth c dC dI kA ad res (s_cX10_awakeNodes) := by
  obtain ⟨hx, hb, hml, hown, hts, hr, hlocks, hK, hN⟩ := id C
  intro σ hf H locs ls hP hS hl
  unfold s_cX10_awakeNodes at hf
  refine lv_iconst (v := 0) hx hb dX10_awakeNodes_0 (by decide) ?_
  refine lv_istore_n (lv' := [(1, .int 0), (0, .ref (ad 7))]) hx hb dX10_awakeNodes_1 rfl hl (by decide) rfl (fun ls hl => ?_)
  refine lv_iconst (v := 0) hx hb dX10_awakeNodes_2 (by decide) ?_
  refine lv_istore_n (lv' := [(2, .int 0), (1, .int 0), (0, .ref (ad 7))]) hx hb dX10_awakeNodes_3 rfl hl (by decide) rfl (fun ls hl => ?_)
  exact (q_cX10_awakeNodes_b4 C hap) σ 0 0 hf H locs ls hP hS (lv_sub hl [2, 1, 0] rfl)
theorem c_cX10_awakeNodes (l : Launch) {dC : Nat → ClassId} {dI : Nat → Nat → Nat} {kA : Nat → ClassId} {ad : Nat → Nat} (hap : jw_ap 57 ad) (σ : RS) (res : Int32 × RS) (hf : s_cX10_awakeNodes σ = some res) : jm_i l KW NW (dC, dI) vwCl (jtys kA) (jw_A 57 ad) (c_w kA ad) yX10_awakeNodes cX10_awakeNodes 3 .int (rm_cX10_awakeNodes) [.ref (ad 7)] σ res := jm_i_of (by decide) (Nat.le_of_ble_eq_true rfl) (fun p e s m below meth c C hP hS ls hl => p_cX10_awakeNodes C hap σ hf s.heap [] ls hP hS hl)

def rm_cX11_undo : Room := { frames := 3, cells := 0, slots := 0, locals := 61 }
def G_cX11_undo (p : Program) (l : Launch) (e : Env) (s : State) (m : MethodId) (args : Array Value) (below : List Frame) (meth : Method) (c : Code) (dC : Nat → ClassId) (dI : Nat → Nat → Nat) (kA : Nat → ClassId) (ad : Nat → Nat) (res : Int32 × RS) (F : RS → Option (Int32 × RS)) : Prop := ∀ (σ : RS), F σ = some res → ∀ (H : Heap) (locs : List Loc) (ls : Array Slot), va_P (dC, dI) vwCl (c_w kA ad σ) H → va_S (jw_A 57 ad) s.heap H locs → lv_has ls 1 [(0, .ref (ad 0))] → W p l e rm_cX11_undo s m args below meth c H locs 0 0 (c_Qi below dC dI kA ad args s res) (F0 m 0 ls [])
def s_cX11_undo (σ : RS) : Option (Int32 × RS) := kn_i (s_cX5_undoLatest σ) (fun v1 σ2 => some (v1, σ2))
set_option maxRecDepth 100000 in
set_option maxHeartbeats 4000000 in
theorem p_cX11_undo {p : Program} {l : Launch} {e : Env} {s : State} {m : MethodId} {args : Array Value} {below : List Frame} {meth : Method} {c : Code} {dC : Nat → ClassId} {dI : Nat → Nat → Nat} {kA : Nat → ClassId} {ad : Nat → Nat} (C : jxc cX11_undo (some .int) 1 RX11 p s m args meth c dC dI kA) (hap : jw_ap 57 ad) {res : Int32 × RS} : G_cX11_undo p l e s m args below meth c dC dI kA ad res (s_cX11_undo) := by
  obtain ⟨hx, hb, hml, hown, hts, hr, hlocks, hK, hN⟩ := id C
  intro σ hf H locs ls hP hS hl
  unfold s_cX11_undo at hf
  refine lv_aload_n hx hb dX11_undo_0 rfl (lv_at hl 0 rfl) ?_
  refine c_gX11_past hx hb hts hown hK hP (hts _ kw_413) dX11_undo_1 ?_
  refine lv_aload_n hx hb dX11_undo_4 rfl (lv_at hl 0 rfl) ?_
  refine c_gX11_web hx hb hts hown hK hP (hts _ kw_410) dX11_undo_5 ?_
  refine jk_i hf (fun res hres => jv_run hx hb hml hown hts hK hN c_hG c_hNW hl.1 (n := 1) (As := [.ref (ad 7)]) (rest := []) (c_cX5_undoLatest l hap σ res hres) hP (ci := 5) (q0 := 17) rfl rfl rfl kw_695 kw_692 kw_693 kw_694 kw_57 ⟨rfl, rfl⟩ (by decide +kernel) rfl ⟨Nat.le_of_ble_eq_true rfl, Nat.le_of_ble_eq_true rfl⟩ rfl (Nat.le_of_ble_eq_true rfl) dX11_undo_8) hS (fun v1 σ2 H locs hP hS hf => ?_)
  exact jr_i hx hb hr hlocks hf rfl hP hS dX11_undo_11
theorem c_cX11_undo (l : Launch) {dC : Nat → ClassId} {dI : Nat → Nat → Nat} {kA : Nat → ClassId} {ad : Nat → Nat} (hap : jw_ap 57 ad) (σ : RS) (res : Int32 × RS) (hf : s_cX11_undo σ = some res) : jm_i l KW NW (dC, dI) vwCl (jtys kA) (jw_A 57 ad) (c_w kA ad) yX11_undo cX11_undo 1 .int (rm_cX11_undo) [.ref (ad 0)] σ res := jm_i_of (by decide) (Nat.le_of_ble_eq_true rfl) (fun p e s m below meth c C hP hS ls hl => p_cX11_undo C hap σ hf s.heap [] ls hP hS hl)

def rm_cX11_failed : Room := { frames := 1, cells := 0, slots := 0, locals := 21 }
def G_cX11_failed (p : Program) (l : Launch) (e : Env) (s : State) (m : MethodId) (args : Array Value) (below : List Frame) (meth : Method) (c : Code) (dC : Nat → ClassId) (dI : Nat → Nat → Nat) (kA : Nat → ClassId) (ad : Nat → Nat) (res : Int32 × RS) (F : RS → Int32 → Option (Int32 × RS)) : Prop := ∀ (σ : RS) (x1 : Int32), F σ x1 = some res → ∀ (H : Heap) (locs : List Loc) (ls : Array Slot), va_P (dC, dI) vwCl (c_w kA ad σ) H → va_S (jw_A 57 ad) s.heap H locs → lv_has ls 2 [(0, .ref (ad 0)), (1, .int x1)] → W p l e rm_cX11_failed s m args below meth c H locs 0 0 (c_Qi below dC dI kA ad args s res) (F0 m 0 ls [])
def s_cX11_failed (σ : RS) (x1 : Int32) : Option (Int32 × RS) := kn_i (s_cX2_tell σ x1) (fun v1 σ2 => some (v1, σ2))
set_option maxRecDepth 100000 in
set_option maxHeartbeats 4000000 in
theorem p_cX11_failed {p : Program} {l : Launch} {e : Env} {s : State} {m : MethodId} {args : Array Value} {below : List Frame} {meth : Method} {c : Code} {dC : Nat → ClassId} {dI : Nat → Nat → Nat} {kA : Nat → ClassId} {ad : Nat → Nat} (C : jxc cX11_failed (some .int) 2 RX11 p s m args meth c dC dI kA) (hap : jw_ap 57 ad) {res : Int32 × RS} : G_cX11_failed p l e s m args below meth c dC dI kA ad res (s_cX11_failed) := by
  obtain ⟨hx, hb, hml, hown, hts, hr, hlocks, hK, hN⟩ := id C
  intro σ x1 hf H locs ls hP hS hl
  unfold s_cX11_failed at hf
  refine lv_aload_n hx hb dX11_failed_0 rfl (lv_at hl 0 rfl) ?_
  refine c_gX11_failure hx hb hts hown hK hP (hts _ kw_412) dX11_failed_1 ?_
  refine lv_iload_n hx hb dX11_failed_4 rfl (lv_at hl 1 rfl) ?_
  refine jk_i hf (fun res hres => jv_run hx hb hml hown hts hK hN c_hG c_hNW hl.1 (n := 1) (As := [.int x1]) (rest := []) (c_cX2_tell l hap σ x1 res hres) hP (ci := 2) (q0 := 16) rfl rfl rfl kw_703 kw_700 kw_701 kw_702 kw_56 ⟨rfl, rfl⟩ (by decide +kernel) rfl ⟨Nat.le_of_ble_eq_true rfl, Nat.le_of_ble_eq_true rfl⟩ rfl (Nat.le_of_ble_eq_true rfl) dX11_failed_5) hS (fun v1 σ2 H locs hP hS hf => ?_)
  exact jr_i hx hb hr hlocks hf rfl hP hS dX11_failed_8
theorem c_cX11_failed (l : Launch) {dC : Nat → ClassId} {dI : Nat → Nat → Nat} {kA : Nat → ClassId} {ad : Nat → Nat} (hap : jw_ap 57 ad) (σ : RS) (x1 : Int32) (res : Int32 × RS) (hf : s_cX11_failed σ x1 = some res) : jm_i l KW NW (dC, dI) vwCl (jtys kA) (jw_A 57 ad) (c_w kA ad) yX11_failed cX11_failed 2 .int (rm_cX11_failed) [.ref (ad 0), .int x1] σ res := jm_i_of (by decide) (Nat.le_of_ble_eq_true rfl) (fun p e s m below meth c C hP hS ls hl => p_cX11_failed C hap σ x1 hf s.heap [] ls hP hS hl)

def rm_cX11_why : Room := { frames := 0, cells := 0, slots := 0, locals := 0 }
def G_cX11_why (p : Program) (l : Launch) (e : Env) (s : State) (m : MethodId) (args : Array Value) (below : List Frame) (meth : Method) (c : Code) (dC : Nat → ClassId) (dI : Nat → Nat → Nat) (kA : Nat → ClassId) (ad : Nat → Nat) (res : Int32 × RS) (F : RS → Option (Int32 × RS)) : Prop := ∀ (σ : RS), F σ = some res → ∀ (H : Heap) (locs : List Loc) (ls : Array Slot), va_P (dC, dI) vwCl (c_w kA ad σ) H → va_S (jw_A 57 ad) s.heap H locs → lv_has ls 1 [(0, .ref (ad 0))] → W p l e rm_cX11_why s m args below meth c H locs 0 0 (c_Qi below dC dI kA ad args s res) (F0 m 0 ls [])
def s_cX11_why (σ : RS) : Option (Int32 × RS) := some (rg_I σ 0, σ)
set_option maxRecDepth 100000 in
set_option maxHeartbeats 4000000 in
theorem p_cX11_why {p : Program} {l : Launch} {e : Env} {s : State} {m : MethodId} {args : Array Value} {below : List Frame} {meth : Method} {c : Code} {dC : Nat → ClassId} {dI : Nat → Nat → Nat} {kA : Nat → ClassId} {ad : Nat → Nat} (C : jxc cX11_why (some .int) 1 RX11 p s m args meth c dC dI kA) (hap : jw_ap 57 ad) {res : Int32 × RS} : G_cX11_why p l e s m args below meth c dC dI kA ad res (s_cX11_why) := by
  obtain ⟨hx, hb, hml, hown, hts, hr, hlocks, hK, hN⟩ := id C
  intro σ hf H locs ls hP hS hl
  unfold s_cX11_why at hf
  refine lv_aload_n hx hb dX11_why_0 rfl (lv_at hl 0 rfl) ?_
  refine c_gX11_whyAsked hx hb hts hown hK hP (hts _ kw_419) dX11_why_1 ?_
  exact jr_i hx hb hr hlocks hf rfl hP hS dX11_why_4
theorem c_cX11_why (l : Launch) {dC : Nat → ClassId} {dI : Nat → Nat → Nat} {kA : Nat → ClassId} {ad : Nat → Nat} (hap : jw_ap 57 ad) (σ : RS) (res : Int32 × RS) (hf : s_cX11_why σ = some res) : jm_i l KW NW (dC, dI) vwCl (jtys kA) (jw_A 57 ad) (c_w kA ad) yX11_why cX11_why 1 .int (rm_cX11_why) [.ref (ad 0)] σ res := jm_i_of (by decide) (Nat.le_of_ble_eq_true rfl) (fun p e s m below meth c C hP hS ls hl => p_cX11_why C hap σ hf s.heap [] ls hP hS hl)

def rm_cX11_whole : Room := { frames := 0, cells := 0, slots := 0, locals := 0 }
def G_cX11_whole (p : Program) (l : Launch) (e : Env) (s : State) (m : MethodId) (args : Array Value) (below : List Frame) (meth : Method) (c : Code) (dC : Nat → ClassId) (dI : Nat → Nat → Nat) (kA : Nat → ClassId) (ad : Nat → Nat) (res : Int64 × RS) (F : RS → Option (Int64 × RS)) : Prop := ∀ (σ : RS), F σ = some res → ∀ (H : Heap) (locs : List Loc) (ls : Array Slot), va_P (dC, dI) vwCl (c_w kA ad σ) H → va_S (jw_A 57 ad) s.heap H locs → lv_has ls 1 [(0, .ref (ad 0))] → W p l e rm_cX11_whole s m args below meth c H locs 0 0 (c_Ql below dC dI kA ad args s res) (F0 m 0 ls [])
def s_cX11_whole (σ : RS) : Option (Int64 × RS) := some (rg_L σ 0, σ)
set_option maxRecDepth 100000 in
set_option maxHeartbeats 4000000 in
theorem p_cX11_whole {p : Program} {l : Launch} {e : Env} {s : State} {m : MethodId} {args : Array Value} {below : List Frame} {meth : Method} {c : Code} {dC : Nat → ClassId} {dI : Nat → Nat → Nat} {kA : Nat → ClassId} {ad : Nat → Nat} (C : jxc cX11_whole (some .long) 1 RX11 p s m args meth c dC dI kA) (hap : jw_ap 57 ad) {res : Int64 × RS} : G_cX11_whole p l e s m args below meth c dC dI kA ad res (s_cX11_whole) := by
  obtain ⟨hx, hb, hml, hown, hts, hr, hlocks, hK, hN⟩ := id C
  intro σ hf H locs ls hP hS hl
  unfold s_cX11_whole at hf
  refine lv_aload_n hx hb dX11_whole_0 rfl (lv_at hl 0 rfl) ?_
  refine c_gX11_web hx hb hts hown hK hP (hts _ kw_410) dX11_whole_1 ?_
  refine c_gX10_sum hx hb hts hown hK hP (hts _ kw_152) dX11_whole_4 ?_
  exact jr_l hx hb hr hlocks hf hP hS dX11_whole_7
theorem c_cX11_whole (l : Launch) {dC : Nat → ClassId} {dI : Nat → Nat → Nat} {kA : Nat → ClassId} {ad : Nat → Nat} (hap : jw_ap 57 ad) (σ : RS) (res : Int64 × RS) (hf : s_cX11_whole σ = some res) : jm_l l KW NW (dC, dI) vwCl (jtys kA) (jw_A 57 ad) (c_w kA ad) yX11_whole cX11_whole 1 (rm_cX11_whole) [.ref (ad 0)] σ res := jm_l_of (by decide) (Nat.le_of_ble_eq_true rfl) (fun p e s m below meth c C hP hS ls hl => p_cX11_whole C hap σ hf s.heap [] ls hP hS hl)

def rm_cX11_awake : Room := { frames := 1, cells := 0, slots := 0, locals := 21 }
def G_cX11_awake (p : Program) (l : Launch) (e : Env) (s : State) (m : MethodId) (args : Array Value) (below : List Frame) (meth : Method) (c : Code) (dC : Nat → ClassId) (dI : Nat → Nat → Nat) (kA : Nat → ClassId) (ad : Nat → Nat) (res : Int32 × RS) (F : RS → Int32 → Option (Int32 × RS)) : Prop := ∀ (σ : RS) (x1 : Int32), F σ x1 = some res → ∀ (H : Heap) (locs : List Loc) (ls : Array Slot), va_P (dC, dI) vwCl (c_w kA ad σ) H → va_S (jw_A 57 ad) s.heap H locs → lv_has ls 2 [(0, .ref (ad 0)), (1, .int x1)] → W p l e rm_cX11_awake s m args below meth c H locs 0 0 (c_Qi below dC dI kA ad args s res) (F0 m 0 ls [])
def s_cX11_awake (σ : RS) (x1 : Int32) : Option (Int32 × RS) := kn_i (s_cX10_hasNode σ x1) (fun v1 σ2 => if v1 = 0 then (some ((-101), σ2)) else (kn_ld (rg_A σ2 4) 12 x1 (fun v3 => if v3 = 0 then (some (0, σ2)) else (some (1, σ2)))))
set_option maxRecDepth 100000 in
set_option maxHeartbeats 4000000 in
theorem p_cX11_awake {p : Program} {l : Launch} {e : Env} {s : State} {m : MethodId} {args : Array Value} {below : List Frame} {meth : Method} {c : Code} {dC : Nat → ClassId} {dI : Nat → Nat → Nat} {kA : Nat → ClassId} {ad : Nat → Nat} (C : jxc cX11_awake (some .int) 2 RX11 p s m args meth c dC dI kA) (hap : jw_ap 57 ad) {res : Int32 × RS} : G_cX11_awake p l e s m args below meth c dC dI kA ad res (s_cX11_awake) := by
  obtain ⟨hx, hb, hml, hown, hts, hr, hlocks, hK, hN⟩ := id C
  intro σ x1 hf H locs ls hP hS hl
  unfold s_cX11_awake at hf
  refine lv_aload_n hx hb dX11_awake_0 rfl (lv_at hl 0 rfl) ?_
  refine c_gX11_web hx hb hts hown hK hP (hts _ kw_410) dX11_awake_1 ?_
  refine lv_iload_n hx hb dX11_awake_4 rfl (lv_at hl 1 rfl) ?_
  refine jk_i hf (fun res hres => jv_run hx hb hml hown hts hK hN c_hG c_hNW hl.1 (n := 1) (As := [.int x1]) (rest := []) (c_cX10_hasNode l hap σ x1 res hres) hP (ci := 10) (q0 := 7) rfl rfl rfl kw_489 kw_494 kw_487 kw_488 kw_54 ⟨rfl, rfl⟩ (by decide +kernel) rfl ⟨Nat.le_of_ble_eq_true rfl, Nat.le_of_ble_eq_true rfl⟩ rfl (Nat.le_of_ble_eq_true rfl) dX11_awake_5) hS (fun v1 σ2 H locs hP hS hf => ?_)
  refine jb_ne (tgt := 14) hx hb hf dX11_awake_8 (by decide) (fun hf => ?_) (fun hf => ?_)
  · refine lv_aload_n hx hb dX11_awake_14 rfl (lv_at hl 0 rfl) ?_
    refine c_gX11_web hx hb hts hown hK hP (hts _ kw_410) dX11_awake_15 ?_
    refine c_gX10_awake hx hb hts hown hK hP (hts _ kw_124) dX11_awake_18 ?_
    refine lv_iload_n hx hb dX11_awake_21 rfl (lv_at hl 1 rfl) ?_
    refine ja_zld hx hb hK hP 9 2 rfl rfl hf dX11_awake_22 (fun v3 hf => ?_)
    refine jb_eq (tgt := 30) hx hb hf dX11_awake_23 (by decide) (fun hf => ?_) (fun hf => ?_)
    · refine lv_iconst (v := 0) hx hb dX11_awake_30 (by decide) ?_
      exact jr_i hx hb hr hlocks hf rfl hP hS dX11_awake_31
    · refine lv_iconst (v := 1) hx hb dX11_awake_26 (by decide) ?_
      refine lv_goto (tgt := 31) hx hb dX11_awake_27 (by decide) ?_
      exact jr_i hx hb hr hlocks hf rfl hP hS dX11_awake_31
  · refine lv_bipush (v := (-101)) hx hb dX11_awake_11 (by decide) ?_
    exact jr_i hx hb hr hlocks hf rfl hP hS dX11_awake_13
theorem c_cX11_awake (l : Launch) {dC : Nat → ClassId} {dI : Nat → Nat → Nat} {kA : Nat → ClassId} {ad : Nat → Nat} (hap : jw_ap 57 ad) (σ : RS) (x1 : Int32) (res : Int32 × RS) (hf : s_cX11_awake σ x1 = some res) : jm_i l KW NW (dC, dI) vwCl (jtys kA) (jw_A 57 ad) (c_w kA ad) yX11_awake cX11_awake 2 .int (rm_cX11_awake) [.ref (ad 0), .int x1] σ res := jm_i_of (by decide) (Nat.le_of_ble_eq_true rfl) (fun p e s m below meth c C hP hS ls hl => p_cX11_awake C hap σ x1 hf s.heap [] ls hP hS hl)

def rm_cX11_along : Room := { frames := 1, cells := 0, slots := 0, locals := 21 }
def G_cX11_along (p : Program) (l : Launch) (e : Env) (s : State) (m : MethodId) (args : Array Value) (below : List Frame) (meth : Method) (c : Code) (dC : Nat → ClassId) (dI : Nat → Nat → Nat) (kA : Nat → ClassId) (ad : Nat → Nat) (res : Int32 × RS) (F : RS → Int32 → Option (Int32 × RS)) : Prop := ∀ (σ : RS) (x1 : Int32), F σ x1 = some res → ∀ (H : Heap) (locs : List Loc) (ls : Array Slot), va_P (dC, dI) vwCl (c_w kA ad σ) H → va_S (jw_A 57 ad) s.heap H locs → lv_has ls 2 [(0, .ref (ad 0)), (1, .int x1)] → W p l e rm_cX11_along s m args below meth c H locs 0 0 (c_Qi below dC dI kA ad args s res) (F0 m 0 ls [])
def s_cX11_along (σ : RS) (x1 : Int32) : Option (Int32 × RS) := kn_i (s_cX9_has σ x1) (fun v1 σ2 => if v1 = 0 then (some ((-102), σ2)) else (kn_ld (rg_A σ2 9) 200 x1 (fun v3 => some (v3, σ2))))
set_option maxRecDepth 100000 in
set_option maxHeartbeats 4000000 in
theorem p_cX11_along {p : Program} {l : Launch} {e : Env} {s : State} {m : MethodId} {args : Array Value} {below : List Frame} {meth : Method} {c : Code} {dC : Nat → ClassId} {dI : Nat → Nat → Nat} {kA : Nat → ClassId} {ad : Nat → Nat} (C : jxc cX11_along (some .int) 2 RX11 p s m args meth c dC dI kA) (hap : jw_ap 57 ad) {res : Int32 × RS} : G_cX11_along p l e s m args below meth c dC dI kA ad res (s_cX11_along) := by
  obtain ⟨hx, hb, hml, hown, hts, hr, hlocks, hK, hN⟩ := id C
  intro σ x1 hf H locs ls hP hS hl
  unfold s_cX11_along at hf
  refine lv_aload_n hx hb dX11_along_0 rfl (lv_at hl 0 rfl) ?_
  refine c_gX11_told hx hb hts hown hK hP (hts _ kw_414) dX11_along_1 ?_
  refine lv_iload_n hx hb dX11_along_4 rfl (lv_at hl 1 rfl) ?_
  refine jk_i hf (fun res hres => jv_run hx hb hml hown hts hK hN c_hG c_hNW hl.1 (n := 1) (As := [.int x1]) (rest := []) (c_cX9_has l hap σ x1 res hres) hP (ci := 9) (q0 := 19) rfl rfl rfl kw_739 kw_736 kw_737 kw_738 kw_59 ⟨rfl, rfl⟩ (by decide +kernel) rfl ⟨Nat.le_of_ble_eq_true rfl, Nat.le_of_ble_eq_true rfl⟩ rfl (Nat.le_of_ble_eq_true rfl) dX11_along_5) hS (fun v1 σ2 H locs hP hS hf => ?_)
  refine jb_eq (tgt := 23) hx hb hf dX11_along_8 (by decide) (fun hf => ?_) (fun hf => ?_)
  · refine lv_bipush (v := (-102)) hx hb dX11_along_23 (by decide) ?_
    exact jr_i hx hb hr hlocks hf rfl hP hS dX11_along_25
  · refine lv_aload_n hx hb dX11_along_11 rfl (lv_at hl 0 rfl) ?_
    refine c_gX11_told hx hb hts hown hK hP (hts _ kw_414) dX11_along_12 ?_
    refine c_gX9_arcs hx hb hts hown hK hP (hts _ kw_257) dX11_along_15 ?_
    refine lv_iload_n hx hb dX11_along_18 rfl (lv_at hl 1 rfl) ?_
    refine ja_ild hx hb hK hP 20 0 rfl rfl hf dX11_along_19 (fun v3 hf => ?_)
    refine lv_goto (tgt := 25) hx hb dX11_along_20 (by decide) ?_
    exact jr_i hx hb hr hlocks hf rfl hP hS dX11_along_25
theorem c_cX11_along (l : Launch) {dC : Nat → ClassId} {dI : Nat → Nat → Nat} {kA : Nat → ClassId} {ad : Nat → Nat} (hap : jw_ap 57 ad) (σ : RS) (x1 : Int32) (res : Int32 × RS) (hf : s_cX11_along σ x1 = some res) : jm_i l KW NW (dC, dI) vwCl (jtys kA) (jw_A 57 ad) (c_w kA ad) yX11_along cX11_along 2 .int (rm_cX11_along) [.ref (ad 0), .int x1] σ res := jm_i_of (by decide) (Nat.le_of_ble_eq_true rfl) (fun p e s m below meth c C hP hS ls hl => p_cX11_along C hap σ x1 hf s.heap [] ls hP hS hl)

def rm_cX11_message : Room := { frames := 1, cells := 0, slots := 0, locals := 21 }
def G_cX11_message (p : Program) (l : Launch) (e : Env) (s : State) (m : MethodId) (args : Array Value) (below : List Frame) (meth : Method) (c : Code) (dC : Nat → ClassId) (dI : Nat → Nat → Nat) (kA : Nat → ClassId) (ad : Nat → Nat) (res : Int64 × RS) (F : RS → Int32 → Option (Int64 × RS)) : Prop := ∀ (σ : RS) (x1 : Int32), F σ x1 = some res → ∀ (H : Heap) (locs : List Loc) (ls : Array Slot), va_P (dC, dI) vwCl (c_w kA ad σ) H → va_S (jw_A 57 ad) s.heap H locs → lv_has ls 2 [(0, .ref (ad 0)), (1, .int x1)] → W p l e rm_cX11_message s m args below meth c H locs 0 0 (c_Ql below dC dI kA ad args s res) (F0 m 0 ls [])
def s_cX11_message (σ : RS) (x1 : Int32) : Option (Int64 × RS) := kn_i (s_cX9_has σ x1) (fun v1 σ2 => if v1 = 0 then (some ((-102), σ2)) else (kn_ld (rg_B σ2 3) 200 x1 (fun v3 => some (v3, σ2))))
set_option maxRecDepth 100000 in
set_option maxHeartbeats 4000000 in
theorem p_cX11_message {p : Program} {l : Launch} {e : Env} {s : State} {m : MethodId} {args : Array Value} {below : List Frame} {meth : Method} {c : Code} {dC : Nat → ClassId} {dI : Nat → Nat → Nat} {kA : Nat → ClassId} {ad : Nat → Nat} (C : jxc cX11_message (some .long) 2 RX11 p s m args meth c dC dI kA) (hap : jw_ap 57 ad) {res : Int64 × RS} : G_cX11_message p l e s m args below meth c dC dI kA ad res (s_cX11_message) := by
  obtain ⟨hx, hb, hml, hown, hts, hr, hlocks, hK, hN⟩ := id C
  intro σ x1 hf H locs ls hP hS hl
  unfold s_cX11_message at hf
  refine lv_aload_n hx hb dX11_message_0 rfl (lv_at hl 0 rfl) ?_
  refine c_gX11_told hx hb hts hown hK hP (hts _ kw_414) dX11_message_1 ?_
  refine lv_iload_n hx hb dX11_message_4 rfl (lv_at hl 1 rfl) ?_
  refine jk_i hf (fun res hres => jv_run hx hb hml hown hts hK hN c_hG c_hNW hl.1 (n := 1) (As := [.int x1]) (rest := []) (c_cX9_has l hap σ x1 res hres) hP (ci := 9) (q0 := 19) rfl rfl rfl kw_739 kw_736 kw_737 kw_738 kw_59 ⟨rfl, rfl⟩ (by decide +kernel) rfl ⟨Nat.le_of_ble_eq_true rfl, Nat.le_of_ble_eq_true rfl⟩ rfl (Nat.le_of_ble_eq_true rfl) dX11_message_5) hS (fun v1 σ2 H locs hP hS hf => ?_)
  refine jb_eq (tgt := 23) hx hb hf dX11_message_8 (by decide) (fun hf => ?_) (fun hf => ?_)
  · refine lv_ldc2 (v := (-102)) hx hb hown (hts _ kw_723) dX11_message_23 ?_
    exact jr_l hx hb hr hlocks hf hP hS dX11_message_26
  · refine lv_aload_n hx hb dX11_message_11 rfl (lv_at hl 0 rfl) ?_
    refine c_gX11_told hx hb hts hown hK hP (hts _ kw_414) dX11_message_12 ?_
    refine c_gX9_values hx hb hts hown hK hP (hts _ kw_259) dX11_message_15 ?_
    refine lv_iload_n hx hb dX11_message_18 rfl (lv_at hl 1 rfl) ?_
    refine ja_lld hx hb hK hP 21 1 rfl rfl hf dX11_message_19 (fun v3 hf => ?_)
    refine lv_goto (tgt := 26) hx hb dX11_message_20 (by decide) ?_
    exact jr_l hx hb hr hlocks hf hP hS dX11_message_26
theorem c_cX11_message (l : Launch) {dC : Nat → ClassId} {dI : Nat → Nat → Nat} {kA : Nat → ClassId} {ad : Nat → Nat} (hap : jw_ap 57 ad) (σ : RS) (x1 : Int32) (res : Int64 × RS) (hf : s_cX11_message σ x1 = some res) : jm_l l KW NW (dC, dI) vwCl (jtys kA) (jw_A 57 ad) (c_w kA ad) yX11_message cX11_message 2 (rm_cX11_message) [.ref (ad 0), .int x1] σ res := jm_l_of (by decide) (Nat.le_of_ble_eq_true rfl) (fun p e s m below meth c C hP hS ls hl => p_cX11_message C hap σ x1 hf s.heap [] ls hP hS hl)

def rm_cX11_count : Room := { frames := 1, cells := 0, slots := 0, locals := 22 }
def G_cX11_count (p : Program) (l : Launch) (e : Env) (s : State) (m : MethodId) (args : Array Value) (below : List Frame) (meth : Method) (c : Code) (dC : Nat → ClassId) (dI : Nat → Nat → Nat) (kA : Nat → ClassId) (ad : Nat → Nat) (res : Int32 × RS) (F : RS → Int32 → Option (Int32 × RS)) : Prop := ∀ (σ : RS) (x1 : Int32), F σ x1 = some res → ∀ (H : Heap) (locs : List Loc) (ls : Array Slot), va_P (dC, dI) vwCl (c_w kA ad σ) H → va_S (jw_A 57 ad) s.heap H locs → lv_has ls 2 [(0, .ref (ad 0)), (1, .int x1)] → W p l e rm_cX11_count s m args below meth c H locs 0 0 (c_Qi below dC dI kA ad args s res) (F0 m 0 ls [])
def s_cX11_count (σ : RS) (x1 : Int32) : Option (Int32 × RS) := if x1 = 0 then (some (rg_I σ 1, σ)) else (if x1 = 1 then (some (rg_I σ 2, σ)) else (if x1 = 2 then (some (rg_I σ 3, σ)) else (if x1 = 3 then (some (rg_I σ 4, σ)) else (if x1 = 4 then (kn_i (s_cX10_awakeNodes σ) (fun v6 σ7 => some (v6, σ7))) else (if x1 = 5 then (some (rg_I σ 17, σ)) else (if x1 = 6 then (some (rg_I σ 13, σ)) else (if x1 = 7 then (some (rg_I σ 12, σ)) else (some ((-102), σ)))))))))
set_option maxRecDepth 100000 in
set_option maxHeartbeats 4000000 in
theorem p_cX11_count {p : Program} {l : Launch} {e : Env} {s : State} {m : MethodId} {args : Array Value} {below : List Frame} {meth : Method} {c : Code} {dC : Nat → ClassId} {dI : Nat → Nat → Nat} {kA : Nat → ClassId} {ad : Nat → Nat} (C : jxc cX11_count (some .int) 2 RX11 p s m args meth c dC dI kA) (hap : jw_ap 57 ad) {res : Int32 × RS} : G_cX11_count p l e s m args below meth c dC dI kA ad res (s_cX11_count) := by
  obtain ⟨hx, hb, hml, hown, hts, hr, hlocks, hK, hN⟩ := id C
  intro σ x1 hf H locs ls hP hS hl
  unfold s_cX11_count at hf
  refine lv_iload_n hx hb dX11_count_0 rfl (lv_at hl 1 rfl) ?_
  by_cases c1 : x1 = 0
  · have hf := kn_t hf c1
    refine lv_tableIn (tgt := 48) hx hb dX11_count_1 (by rw [c1]; decide) (by rw [c1]; decide) (by rw [c1]; rfl) (by decide) ?_
    refine lv_aload_n hx hb dX11_count_48 rfl (lv_at hl 0 rfl) ?_
    refine c_gX11_terms hx hb hts hown hK hP (hts _ kw_409) dX11_count_49 ?_
    refine c_gX8_size hx hb hts hown hK hP (hts _ kw_92) dX11_count_52 ?_
    exact jr_i hx hb hr hlocks hf rfl hP hS dX11_count_55
  · have hf := kn_f hf c1
    by_cases c2 : x1 = 1
    · have hf := kn_t hf c2
      refine lv_tableIn (tgt := 56) hx hb dX11_count_1 (by rw [c2]; decide) (by rw [c2]; decide) (by rw [c2]; rfl) (by decide) ?_
      refine lv_aload_n hx hb dX11_count_56 rfl (lv_at hl 0 rfl) ?_
      refine c_gX11_web hx hb hts hown hK hP (hts _ kw_410) dX11_count_57 ?_
      refine c_gX10_nodes hx hb hts hown hK hP (hts _ kw_138) dX11_count_60 ?_
      exact jr_i hx hb hr hlocks hf rfl hP hS dX11_count_63
    · have hf := kn_f hf c2
      by_cases c3 : x1 = 2
      · have hf := kn_t hf c3
        refine lv_tableIn (tgt := 64) hx hb dX11_count_1 (by rw [c3]; decide) (by rw [c3]; decide) (by rw [c3]; rfl) (by decide) ?_
        refine lv_aload_n hx hb dX11_count_64 rfl (lv_at hl 0 rfl) ?_
        refine c_gX11_web hx hb hts hown hK hP (hts _ kw_410) dX11_count_65 ?_
        refine c_gX10_arcs hx hb hts hown hK hP (hts _ kw_142) dX11_count_68 ?_
        exact jr_i hx hb hr hlocks hf rfl hP hS dX11_count_71
      · have hf := kn_f hf c3
        by_cases c4 : x1 = 3
        · have hf := kn_t hf c4
          refine lv_tableIn (tgt := 72) hx hb dX11_count_1 (by rw [c4]; decide) (by rw [c4]; decide) (by rw [c4]; rfl) (by decide) ?_
          refine lv_aload_n hx hb dX11_count_72 rfl (lv_at hl 0 rfl) ?_
          refine c_gX11_web hx hb hts hown hK hP (hts _ kw_410) dX11_count_73 ?_
          refine c_gX10_rounds hx hb hts hown hK hP (hts _ kw_148) dX11_count_76 ?_
          exact jr_i hx hb hr hlocks hf rfl hP hS dX11_count_79
        · have hf := kn_f hf c4
          by_cases c5 : x1 = 4
          · have hf := kn_t hf c5
            refine lv_tableIn (tgt := 80) hx hb dX11_count_1 (by rw [c5]; decide) (by rw [c5]; decide) (by rw [c5]; rfl) (by decide) ?_
            refine lv_aload_n hx hb dX11_count_80 rfl (lv_at hl 0 rfl) ?_
            refine c_gX11_web hx hb hts hown hK hP (hts _ kw_410) dX11_count_81 ?_
            refine jk_i hf (fun res hres => jv_run hx hb hml hown hts hK hN c_hG c_hNW hl.1 (n := 0) (As := []) (rest := []) (c_cX10_awakeNodes l hap σ res hres) hP (ci := 10) (q0 := 7) rfl rfl rfl kw_615 kw_748 kw_613 kw_614 kw_54 ⟨rfl, rfl⟩ (by decide +kernel) rfl ⟨Nat.le_of_ble_eq_true rfl, Nat.le_of_ble_eq_true rfl⟩ rfl (Nat.le_of_ble_eq_true rfl) dX11_count_84) hS (fun v6 σ7 H locs hP hS hf => ?_)
            exact jr_i hx hb hr hlocks hf rfl hP hS dX11_count_87
          · have hf := kn_f hf c5
            by_cases c8 : x1 = 5
            · have hf := kn_t hf c8
              refine lv_tableIn (tgt := 88) hx hb dX11_count_1 (by rw [c8]; decide) (by rw [c8]; decide) (by rw [c8]; rfl) (by decide) ?_
              refine lv_aload_n hx hb dX11_count_88 rfl (lv_at hl 0 rfl) ?_
              refine c_gX11_asker hx hb hts hown hK hP (hts _ kw_415) dX11_count_89 ?_
              refine c_gX1_allSteps hx hb hts hown hK hP (hts _ kw_284) dX11_count_92 ?_
              exact jr_i hx hb hr hlocks hf rfl hP hS dX11_count_95
            · have hf := kn_f hf c8
              by_cases c9 : x1 = 6
              · have hf := kn_t hf c9
                refine lv_tableIn (tgt := 96) hx hb dX11_count_1 (by rw [c9]; decide) (by rw [c9]; decide) (by rw [c9]; rfl) (by decide) ?_
                refine lv_aload_n hx hb dX11_count_96 rfl (lv_at hl 0 rfl) ?_
                refine c_gX11_told hx hb hts hown hK hP (hts _ kw_414) dX11_count_97 ?_
                refine c_gX9_size hx hb hts hown hK hP (hts _ kw_261) dX11_count_100 ?_
                exact jr_i hx hb hr hlocks hf rfl hP hS dX11_count_103
              · have hf := kn_f hf c9
                by_cases c10 : x1 = 7
                · have hf := kn_t hf c10
                  refine lv_tableIn (tgt := 104) hx hb dX11_count_1 (by rw [c10]; decide) (by rw [c10]; decide) (by rw [c10]; rfl) (by decide) ?_
                  refine lv_aload_n hx hb dX11_count_104 rfl (lv_at hl 0 rfl) ?_
                  refine c_gX11_past hx hb hts hown hK hP (hts _ kw_413) dX11_count_105 ?_
                  refine c_gX5_kept hx hb hts hown hK hP (hts _ kw_242) dX11_count_108 ?_
                  exact jr_i hx hb hr hlocks hf rfl hP hS dX11_count_111
                · have hf := kn_f hf c10
                  refine lv_tableOut (tgt := 112) hx hb dX11_count_1 (by have t0 := lv_neT c1 (a := 0) (by decide); have t1 := lv_neT c2 (a := 1) (by decide); have t2 := lv_neT c3 (a := 2) (by decide); have t3 := lv_neT c4 (a := 3) (by decide); have t4 := lv_neT c5 (a := 4) (by decide); have t5 := lv_neT c8 (a := 5) (by decide); have t6 := lv_neT c9 (a := 6) (by decide); have t7 := lv_neT c10 (a := 7) (by decide); omega) (by decide) ?_
                  refine lv_bipush (v := (-102)) hx hb dX11_count_112 (by decide) ?_
                  exact jr_i hx hb hr hlocks hf rfl hP hS dX11_count_114
theorem c_cX11_count (l : Launch) {dC : Nat → ClassId} {dI : Nat → Nat → Nat} {kA : Nat → ClassId} {ad : Nat → Nat} (hap : jw_ap 57 ad) (σ : RS) (x1 : Int32) (res : Int32 × RS) (hf : s_cX11_count σ x1 = some res) : jm_i l KW NW (dC, dI) vwCl (jtys kA) (jw_A 57 ad) (c_w kA ad) yX11_count cX11_count 2 .int (rm_cX11_count) [.ref (ad 0), .int x1] σ res := jm_i_of (by decide) (Nat.le_of_ble_eq_true rfl) (fun p e s m below meth c C hP hS ls hl => p_cX11_count C hap σ x1 hf s.heap [] ls hP hS hl)

def rm_cX11_isState : Room := { frames := 0, cells := 0, slots := 0, locals := 0 }
def G_cX11_isState (p : Program) (l : Launch) (e : Env) (s : State) (m : MethodId) (args : Array Value) (below : List Frame) (meth : Method) (c : Code) (dC : Nat → ClassId) (dI : Nat → Nat → Nat) (kA : Nat → ClassId) (ad : Nat → Nat) (res : Int32 × RS) (F : RS → Int64 → Option (Int32 × RS)) : Prop := ∀ (σ : RS) (x0 : Int64), F σ x0 = some res → ∀ (H : Heap) (locs : List Loc) (ls : Array Slot), va_P (dC, dI) vwCl (c_w kA ad σ) H → va_S (jw_A 57 ad) s.heap H locs → lv_has ls 2 [(0, .long x0)] → W p l e rm_cX11_isState s m args below meth c H locs 0 0 (c_Qi below dC dI kA ad args s res) (F0 m 0 ls [])
def s_cX11_isState (σ : RS) (x0 : Int64) : Option (Int32 × RS) := if x0 < 0 then (some (0, σ)) else (if 3 ≤ x0 then (some (0, σ)) else (some (1, σ)))
set_option maxRecDepth 100000 in
set_option maxHeartbeats 4000000 in
theorem p_cX11_isState {p : Program} {l : Launch} {e : Env} {s : State} {m : MethodId} {args : Array Value} {below : List Frame} {meth : Method} {c : Code} {dC : Nat → ClassId} {dI : Nat → Nat → Nat} {kA : Nat → ClassId} {ad : Nat → Nat} (C : jxc cX11_isState (some .boolean) 2 RX11 p s m args meth c dC dI kA) (hap : jw_ap 57 ad) {res : Int32 × RS} : G_cX11_isState p l e s m args below meth c dC dI kA ad res (s_cX11_isState) := by
  obtain ⟨hx, hb, hml, hown, hts, hr, hlocks, hK, hN⟩ := id C
  intro σ x0 hf H locs ls hP hS hl
  unfold s_cX11_isState at hf
  refine lv_lload_n hx hb dX11_isState_0 rfl (lv_at hl 0 rfl) ?_
  refine lv_lconst (v := 0) hx hb dX11_isState_1 (by decide) ?_
  refine jl_lt (tgt := 18) hx hb hf dX11_isState_2 dX11_isState_3 (by decide) (fun hf => ?_) (fun hf => ?_)
  · refine lv_iconst (v := 0) hx hb dX11_isState_18 (by decide) ?_
    exact jr_i hx hb hr hlocks hf (by decide) hP hS dX11_isState_19
  · refine lv_lload_n hx hb dX11_isState_6 rfl (lv_at hl 0 rfl) ?_
    refine lv_ldc2 (v := 3) hx hb hown (hts _ kw_461) dX11_isState_7 ?_
    refine jl_ge (tgt := 18) hx hb hf dX11_isState_10 dX11_isState_11 (by decide) (fun hf => ?_) (fun hf => ?_)
    · refine lv_iconst (v := 0) hx hb dX11_isState_18 (by decide) ?_
      exact jr_i hx hb hr hlocks hf (by decide) hP hS dX11_isState_19
    · refine lv_iconst (v := 1) hx hb dX11_isState_14 (by decide) ?_
      refine lv_goto (tgt := 19) hx hb dX11_isState_15 (by decide) ?_
      exact jr_i hx hb hr hlocks hf (by decide) hP hS dX11_isState_19
theorem c_cX11_isState (l : Launch) {dC : Nat → ClassId} {dI : Nat → Nat → Nat} {kA : Nat → ClassId} {ad : Nat → Nat} (hap : jw_ap 57 ad) (σ : RS) (x0 : Int64) (res : Int32 × RS) (hf : s_cX11_isState σ x0 = some res) : jm_i l KW NW (dC, dI) vwCl (jtys kA) (jw_A 57 ad) (c_w kA ad) yX11_isState cX11_isState 2 .boolean (rm_cX11_isState) [.long x0] σ res := jm_i_of (by decide) (Nat.le_of_ble_eq_true rfl) (fun p e s m below meth c C hP hS ls hl => p_cX11_isState C hap σ x0 hf s.heap [] ls hP hS hl)

def rm_cX11_changed : Room := { frames := 1, cells := 0, slots := 0, locals := 20 }
def G_cX11_changed (p : Program) (l : Launch) (e : Env) (s : State) (m : MethodId) (args : Array Value) (below : List Frame) (meth : Method) (c : Code) (dC : Nat → ClassId) (dI : Nat → Nat → Nat) (kA : Nat → ClassId) (ad : Nat → Nat) (res : Int32 × RS) (F : RS → Int32 → Option (Int32 × RS)) : Prop := ∀ (σ : RS) (x1 : Int32), F σ x1 = some res → ∀ (H : Heap) (locs : List Loc) (ls : Array Slot), va_P (dC, dI) vwCl (c_w kA ad σ) H → va_S (jw_A 57 ad) s.heap H locs → lv_has ls 2 [(0, .ref (ad 0)), (1, .int x1)] → W p l e rm_cX11_changed s m args below meth c H locs 0 0 (c_Qi below dC dI kA ad args s res) (F0 m 0 ls [])
def s_cX11_changed (σ : RS) (x1 : Int32) : Option (Int32 × RS) := if x1 < (-1) then (some (x1, σ)) else (kn_u (s_cX5_forget σ) (fun σ2 => some (x1, σ2)))
set_option maxRecDepth 100000 in
set_option maxHeartbeats 4000000 in
theorem p_cX11_changed {p : Program} {l : Launch} {e : Env} {s : State} {m : MethodId} {args : Array Value} {below : List Frame} {meth : Method} {c : Code} {dC : Nat → ClassId} {dI : Nat → Nat → Nat} {kA : Nat → ClassId} {ad : Nat → Nat} (C : jxc cX11_changed (some .int) 2 RX11 p s m args meth c dC dI kA) (hap : jw_ap 57 ad) {res : Int32 × RS} : G_cX11_changed p l e s m args below meth c dC dI kA ad res (s_cX11_changed) := by
  obtain ⟨hx, hb, hml, hown, hts, hr, hlocks, hK, hN⟩ := id C
  intro σ x1 hf H locs ls hP hS hl
  unfold s_cX11_changed at hf
  refine lv_iload_n hx hb dX11_changed_0 rfl (lv_at hl 1 rfl) ?_
  refine lv_iconst (v := (-1)) hx hb dX11_changed_1 (by decide) ?_
  refine jc_lt (tgt := 12) hx hb hf dX11_changed_2 (by decide) (fun hf => ?_) (fun hf => ?_)
  · refine lv_iload_n hx hb dX11_changed_12 rfl (lv_at hl 1 rfl) ?_
    exact jr_i hx hb hr hlocks hf rfl hP hS dX11_changed_13
  · refine lv_aload_n hx hb dX11_changed_5 rfl (lv_at hl 0 rfl) ?_
    refine c_gX11_past hx hb hts hown hK hP (hts _ kw_413) dX11_changed_6 ?_
    refine jk_u hf (fun res hres => jv_run hx hb hml hown hts hK hN c_hG c_hNW hl.1 (n := 0) (As := []) (rest := []) (c_cX5_forget l hap σ res hres) hP (ci := 5) (q0 := 17) rfl rfl rfl kw_477 kw_474 kw_475 kw_476 kw_57 ⟨rfl, rfl⟩ (by decide +kernel) rfl ⟨Nat.le_of_ble_eq_true rfl, Nat.le_of_ble_eq_true rfl⟩ rfl (Nat.le_of_ble_eq_true rfl) dX11_changed_9) hS (fun σ2 H locs hP hS hf => ?_)
    refine lv_iload_n hx hb dX11_changed_12 rfl (lv_at hl 1 rfl) ?_
    exact jr_i hx hb hr hlocks hf rfl hP hS dX11_changed_13
theorem c_cX11_changed (l : Launch) {dC : Nat → ClassId} {dI : Nat → Nat → Nat} {kA : Nat → ClassId} {ad : Nat → Nat} (hap : jw_ap 57 ad) (σ : RS) (x1 : Int32) (res : Int32 × RS) (hf : s_cX11_changed σ x1 = some res) : jm_i l KW NW (dC, dI) vwCl (jtys kA) (jw_A 57 ad) (c_w kA ad) yX11_changed cX11_changed 2 .int (rm_cX11_changed) [.ref (ad 0), .int x1] σ res := jm_i_of (by decide) (Nat.le_of_ble_eq_true rfl) (fun p e s m below meth c C hP hS ls hl => p_cX11_changed C hap σ x1 hf s.heap [] ls hP hS hl)

def rm_cX1_begin : Room := { frames := 1, cells := 0, slots := 0, locals := 23 }
def G_cX1_begin (p : Program) (l : Launch) (e : Env) (s : State) (m : MethodId) (args : Array Value) (below : List Frame) (meth : Method) (c : Code) (dC : Nat → ClassId) (dI : Nat → Nat → Nat) (kA : Nat → ClassId) (ad : Nat → Nat) (res : RS) (F : RS → Option (RS)) : Prop := ∀ (σ : RS), F σ = some res → ∀ (H : Heap) (locs : List Loc) (ls : Array Slot), va_P (dC, dI) vwCl (c_w kA ad σ) H → va_S (jw_A 57 ad) s.heap H locs → lv_has ls 1 [(0, .ref (ad 22))] → W p l e rm_cX1_begin s m args below meth c H locs 0 0 (c_Qu below dC dI kA ad args s res) (F0 m 0 ls [])
def s_cX1_begin (σ : RS) : Option (RS) := kn_v (rs_I σ 15 0) (fun σ1 => kn_v (rs_I σ1 16 0) (fun σ2 => kn_u (s_cX1_setFolded σ2 0 0) (fun σ4 => some σ4)))
set_option maxRecDepth 100000 in
set_option maxHeartbeats 4000000 in
theorem p_cX1_begin {p : Program} {l : Launch} {e : Env} {s : State} {m : MethodId} {args : Array Value} {below : List Frame} {meth : Method} {c : Code} {dC : Nat → ClassId} {dI : Nat → Nat → Nat} {kA : Nat → ClassId} {ad : Nat → Nat} (C : jxc cX1_begin none 1 RX1 p s m args meth c dC dI kA) (hap : jw_ap 57 ad) {res : RS} : G_cX1_begin p l e s m args below meth c dC dI kA ad res (s_cX1_begin) := by
  obtain ⟨hx, hb, hml, hown, hts, hr, hlocks, hK, hN⟩ := id C
  intro σ hf H locs ls hP hS hl
  unfold s_cX1_begin at hf
  refine lv_aload_n hx hb dX1_begin_0 rfl (lv_at hl 0 rfl) ?_
  refine lv_iconst (v := 0) hx hb dX1_begin_1 (by decide) ?_
  refine c_pX1_steps hx hb hts hown hK hap hP hS hf (hts _ kw_278) dX1_begin_2 (fun σ1 H locs hP hS hf => ?_)
  refine lv_aload_n hx hb dX1_begin_5 rfl (lv_at hl 0 rfl) ?_
  refine lv_iconst (v := 0) hx hb dX1_begin_6 (by decide) ?_
  refine c_pX1_fault hx hb hts hown hK hap hP hS hf (hts _ kw_280) dX1_begin_7 (fun σ2 H locs hP hS hf => ?_)
  refine lv_aload_n hx hb dX1_begin_10 rfl (lv_at hl 0 rfl) ?_
  refine lv_lconst (v := 0) hx hb dX1_begin_11 (by decide) ?_
  refine lv_iconst (v := 0) hx hb dX1_begin_12 (by decide) ?_
  refine jk_u hf (fun res hres => jv_run hx hb hml hown hts hK hN c_hG c_hNW hl.1 (n := 2) (As := [.long 0, .int 0]) (rest := []) (c_cX1_setFolded l hap σ2 0 0 res hres) hP (ci := 1) (q0 := 22) rfl rfl rfl kw_539 kw_536 kw_537 kw_538 kw_60 ⟨rfl, rfl⟩ (by decide +kernel) rfl ⟨Nat.le_of_ble_eq_true rfl, Nat.le_of_ble_eq_true rfl⟩ rfl (Nat.le_of_ble_eq_true rfl) dX1_begin_13) hS (fun σ4 H locs hP hS hf => ?_)
  exact jr_u hx hb hr hlocks hf hP hS dX1_begin_16
theorem c_cX1_begin (l : Launch) {dC : Nat → ClassId} {dI : Nat → Nat → Nat} {kA : Nat → ClassId} {ad : Nat → Nat} (hap : jw_ap 57 ad) (σ : RS) (res : RS) (hf : s_cX1_begin σ = some res) : jm_u l KW NW (dC, dI) vwCl (jtys kA) (jw_A 57 ad) (c_w kA ad) yX1_begin cX1_begin 1 (rm_cX1_begin) [.ref (ad 22)] σ res := jm_u_of (by decide) (Nat.le_of_ble_eq_true rfl) (fun p e s m below meth c C hP hS ls hl => p_cX1_begin C hap σ hf s.heap [] ls hP hS hl)

def rm_cX1_valueOf (dp : Nat) : Room := { frames := dp + 1, cells := 0, slots := 0, locals := dp * 29 + 25 }
theorem rm_cX1_valueOf_f (dp : Nat) : (rm_cX1_valueOf dp).frames + 1 ≤ (rm_cX1_valueOf (dp + 1)).frames := by show dp + 1 + 1 ≤ dp + 1 + 1; omega
theorem rm_cX1_valueOf_l (dp : Nat) : 8 + (10 + 11) + (rm_cX1_valueOf dp).locals ≤ (rm_cX1_valueOf (dp + 1)).locals := by show 8 + (10 + 11) + (dp * 29 + 25) ≤ (dp + 1) * 29 + 25; omega
theorem rm_cX1_valueOf_cf (dp : Nat) {k : Nat} (h : k ≤ 1) : k ≤ (rm_cX1_valueOf (dp + 1)).frames := by show k ≤ dp + 1 + 1; omega
theorem rm_cX1_valueOf_cl (dp : Nat) {k : Nat} (h : k ≤ 25) : k ≤ (rm_cX1_valueOf (dp + 1)).locals := by show k ≤ (dp + 1) * 29 + 25; omega
def G_cX1_valueOf_b17 (p : Program) (l : Launch) (e : Env) (s : State) (m : MethodId) (args : Array Value) (below : List Frame) (meth : Method) (c : Code) (dC : Nat → ClassId) (dI : Nat → Nat → Nat) (kA : Nat → ClassId) (ad : Nat → Nat) (dp : Nat) (res : Int64 × RS) (F : RS → Option (Int64 × RS)) : Prop := ∀ (σ : RS), F σ = some res → ∀ (H : Heap) (locs : List Loc) (ls : Array Slot), va_P (dC, dI) vwCl (c_w kA ad σ) H → va_S (jw_A 57 ad) s.heap H locs → lv_has ls 10 [(0, .ref (ad 22))] → W p l e (rm_cX1_valueOf dp) s m args below meth c H locs 0 0 (c_Ql below dC dI kA ad args s res) (F0 m 17 ls [])
def G_cX1_valueOf_b151 (p : Program) (l : Launch) (e : Env) (s : State) (m : MethodId) (args : Array Value) (below : List Frame) (meth : Method) (c : Code) (dC : Nat → ClassId) (dI : Nat → Nat → Nat) (kA : Nat → ClassId) (ad : Nat → Nat) (dp : Nat) (res : Int64 × RS) (F : RS → Int32 → Int32 → Int32 → Int32 → Option (Int64 × RS)) : Prop := ∀ (σ : RS) (x2 : Int32) (x3 : Int32) (x4 : Int32) (s0 : Int32), F σ x2 x3 x4 s0 = some res → ∀ (H : Heap) (locs : List Loc) (ls : Array Slot), va_P (dC, dI) vwCl (c_w kA ad σ) H → va_S (jw_A 57 ad) s.heap H locs → lv_has ls 10 [(2, .int x2), (3, .int x3), (4, .int x4)] → W p l e (rm_cX1_valueOf dp) s m args below meth c H locs 0 0 (c_Ql below dC dI kA ad args s res) (F0 m 151 ls [.int s0, .ref (ad 22)])
def G_cX1_valueOf (p : Program) (l : Launch) (e : Env) (s : State) (m : MethodId) (args : Array Value) (below : List Frame) (meth : Method) (c : Code) (dC : Nat → ClassId) (dI : Nat → Nat → Nat) (kA : Nat → ClassId) (ad : Nat → Nat) (dp : Nat) (res : Int64 × RS) (F : RS → Int32 → Int32 → Int32 → Int32 → Option (Int64 × RS)) : Prop := ∀ (σ : RS) (x1 : Int32) (x2 : Int32) (x3 : Int32) (x4 : Int32), F σ x1 x2 x3 x4 = some res → ∀ (H : Heap) (locs : List Loc) (ls : Array Slot), va_P (dC, dI) vwCl (c_w kA ad σ) H → va_S (jw_A 57 ad) s.heap H locs → lv_has ls 10 [(0, .ref (ad 22)), (1, .int x1), (2, .int x2), (3, .int x3), (4, .int x4)] → W p l e (rm_cX1_valueOf dp) s m args below meth c H locs 0 0 (c_Ql below dC dI kA ad args s res) (F0 m 0 ls [])
def s_cX1_valueOf_b17 (rec : RS → Int32 → Int32 → Int32 → Int32 → Option (Int64 × RS)) (σ : RS) : Option (Int64 × RS) := kn_l (s_cX1_fails σ 4) (fun v1 σ2 => some (v1, σ2))
set_option maxRecDepth 100000 in
set_option maxHeartbeats 4000000 in
theorem p_cX1_valueOf_b17 {p : Program} {l : Launch} {e : Env} {s : State} {m : MethodId} {args : Array Value} {below : List Frame} {meth : Method} {c : Code} {dC : Nat → ClassId} {dI : Nat → Nat → Nat} {kA : Nat → ClassId} {ad : Nat → Nat} (C : jxc cX1_valueOf (some .long) 10 RX1 p s m args meth c dC dI kA) (hap : jw_ap 57 ad) (dp : Nat) {rec : RS → Int32 → Int32 → Int32 → Int32 → Option (Int64 × RS)} (hrec : ∀ (σ : RS) (x1 : Int32) (x2 : Int32) (x3 : Int32) (x4 : Int32) (res : Int64 × RS), rec σ x1 x2 x3 x4 = some res → jm_l l KW NW (dC, dI) vwCl (jtys kA) (jw_A 57 ad) (c_w kA ad) yX1_valueOf cX1_valueOf 10 (rm_cX1_valueOf dp) [.ref (ad 22), .int x1, .int x2, .int x3, .int x4] σ res) {res : Int64 × RS} : G_cX1_valueOf_b17 p l e s m args below meth c dC dI kA ad (dp + 1) res (s_cX1_valueOf_b17 rec) := by
  obtain ⟨hx, hb, hml, hown, hts, hr, hlocks, hK, hN⟩ := id C
  intro σ hf H locs ls hP hS hl
  unfold s_cX1_valueOf_b17 at hf
  refine lv_aload_n hx hb dX1_valueOf_17 rfl (lv_at hl 0 rfl) ?_
  refine lv_iconst (v := 4) hx hb dX1_valueOf_18 (by decide) ?_
  refine jk_l hf (fun res hres => jv_run hx hb hml hown hts hK hN c_hG c_hNW hl.1 (n := 1) (As := [.int 4]) (rest := []) (c_cX1_fails l hap σ 4 res hres) hP (ci := 1) (q0 := 22) rfl rfl rfl kw_563 kw_560 kw_562 kw_5 kw_60 ⟨rfl, rfl⟩ (by decide +kernel) rfl ⟨rm_cX1_valueOf_cf dp (by decide), rm_cX1_valueOf_cl dp (by decide)⟩ rfl (Nat.le_of_ble_eq_true rfl) dX1_valueOf_19) hS (fun v1 σ2 H locs hP hS hf => ?_)
  exact jr_l hx hb hr hlocks hf hP hS dX1_valueOf_22
def s_cX1_valueOf_b151 (rec : RS → Int32 → Int32 → Int32 → Int32 → Option (Int64 × RS)) (σ : RS) (x2 : Int32) (x3 : Int32) (x4 : Int32) (s0 : Int32) : Option (Int64 × RS) := kn_l (rec σ s0 x2 x3 (x4 + 1)) (fun v1 σ2 => some (v1, σ2))
set_option maxRecDepth 100000 in
set_option maxHeartbeats 4000000 in
theorem p_cX1_valueOf_b151 {p : Program} {l : Launch} {e : Env} {s : State} {m : MethodId} {args : Array Value} {below : List Frame} {meth : Method} {c : Code} {dC : Nat → ClassId} {dI : Nat → Nat → Nat} {kA : Nat → ClassId} {ad : Nat → Nat} (C : jxc cX1_valueOf (some .long) 10 RX1 p s m args meth c dC dI kA) (hap : jw_ap 57 ad) (dp : Nat) {rec : RS → Int32 → Int32 → Int32 → Int32 → Option (Int64 × RS)} (hrec : ∀ (σ : RS) (x1 : Int32) (x2 : Int32) (x3 : Int32) (x4 : Int32) (res : Int64 × RS), rec σ x1 x2 x3 x4 = some res → jm_l l KW NW (dC, dI) vwCl (jtys kA) (jw_A 57 ad) (c_w kA ad) yX1_valueOf cX1_valueOf 10 (rm_cX1_valueOf dp) [.ref (ad 22), .int x1, .int x2, .int x3, .int x4] σ res) {res : Int64 × RS} : G_cX1_valueOf_b151 p l e s m args below meth c dC dI kA ad (dp + 1) res (s_cX1_valueOf_b151 rec) := by
  obtain ⟨hx, hb, hml, hown, hts, hr, hlocks, hK, hN⟩ := id C
  intro σ x2 x3 x4 s0 hf H locs ls hP hS hl
  unfold s_cX1_valueOf_b151 at hf
  refine lv_iload_n hx hb dX1_valueOf_151 rfl (lv_at hl 0 rfl) ?_
  refine lv_iload_n hx hb dX1_valueOf_152 rfl (lv_at hl 1 rfl) ?_
  refine lv_iload hx hb dX1_valueOf_153 (lv_at hl 2 rfl) ?_
  refine lv_iconst (v := 1) hx hb dX1_valueOf_155 (by decide) ?_
  refine lv_iadd hx hb dX1_valueOf_156 ?_
  refine jk_l hf (fun res hres => jv_run hx hb hml hown hts hK hN c_hG c_hNW hl.1 (n := 4) (As := [.int s0, .int x2, .int x3, .int (x4 + 1)]) (rest := []) (hrec σ s0 x2 x3 (x4 + 1) res hres) hP (ci := 1) (q0 := 22) rfl rfl rfl kw_559 kw_568 kw_558 kw_4 kw_60 ⟨rfl, rfl⟩ (by decide +kernel) rfl ⟨rm_cX1_valueOf_f dp, rm_cX1_valueOf_l dp⟩ rfl (Nat.le_of_ble_eq_true rfl) dX1_valueOf_157) hS (fun v1 σ2 H locs hP hS hf => ?_)
  exact jr_l hx hb hr hlocks hf hP hS dX1_valueOf_160
def s_cX1_valueOf (rec : RS → Int32 → Int32 → Int32 → Int32 → Option (Int64 × RS)) (σ : RS) (x1 : Int32) (x2 : Int32) (x3 : Int32) (x4 : Int32) : Option (Int64 × RS) := if 3000 ≤ (rg_I σ 15) then (s_cX1_valueOf_b17 rec σ) else (if x4 < 40 then (kn_v (rs_I σ 15 ((rg_I σ 15) + 1)) (fun σ1 => kn_v (rs_I σ1 17 ((rg_I σ1 17) + 1)) (fun σ2 => kn_ld (rg_A σ2 0) 40 x1 (fun v3 => if 8 ≤ v3 then (kn_ld (rg_A σ2 1) 40 x1 (fun v4 => kn_l (rec σ2 v4 x2 x3 (x4 + 1)) (fun v5 σ6 => if (rg_I σ6 16) = 0 then (if v3 = 17 then (kn_l (s_cX1_stateAt σ6 x2 v5.toInt32) (fun v14 σ15 => some (v14, σ15))) else (if v3 = 16 then (if v5 = 0 then (kn_ld (rg_A σ6 3) 40 x1 (fun v12 => s_cX1_valueOf_b151 rec σ6 x2 x3 x4 v12)) else (kn_ld (rg_A σ6 2) 40 x1 (fun v13 => s_cX1_valueOf_b151 rec σ6 x2 x3 x4 v13))) else (kn_ld (rg_A σ6 2) 40 x1 (fun v7 => kn_l (rec σ6 v7 x2 x3 (x4 + 1)) (fun v8 σ9 => if (rg_I σ9 16) = 0 then (kn_l (s_cX1_joined σ9 v3 v5 v8) (fun v10 σ11 => some (v10, σ11))) else (some (0, σ9))))))) else (some (0, σ6))))) else (kn_l (s_cX1_plainValue σ2 x1 x2 x3) (fun v16 σ17 => some (v16, σ17))))))) else (s_cX1_valueOf_b17 rec σ))
set_option maxRecDepth 100000 in
set_option maxHeartbeats 4000000 in
theorem p_cX1_valueOf {p : Program} {l : Launch} {e : Env} {s : State} {m : MethodId} {args : Array Value} {below : List Frame} {meth : Method} {c : Code} {dC : Nat → ClassId} {dI : Nat → Nat → Nat} {kA : Nat → ClassId} {ad : Nat → Nat} (C : jxc cX1_valueOf (some .long) 10 RX1 p s m args meth c dC dI kA) (hap : jw_ap 57 ad) (dp : Nat) {rec : RS → Int32 → Int32 → Int32 → Int32 → Option (Int64 × RS)} (hrec : ∀ (σ : RS) (x1 : Int32) (x2 : Int32) (x3 : Int32) (x4 : Int32) (res : Int64 × RS), rec σ x1 x2 x3 x4 = some res → jm_l l KW NW (dC, dI) vwCl (jtys kA) (jw_A 57 ad) (c_w kA ad) yX1_valueOf cX1_valueOf 10 (rm_cX1_valueOf dp) [.ref (ad 22), .int x1, .int x2, .int x3, .int x4] σ res) {res : Int64 × RS} : G_cX1_valueOf p l e s m args below meth c dC dI kA ad (dp + 1) res (s_cX1_valueOf rec) := by
  obtain ⟨hx, hb, hml, hown, hts, hr, hlocks, hK, hN⟩ := id C
  intro σ x1 x2 x3 x4 hf H locs ls hP hS hl
  unfold s_cX1_valueOf at hf
  refine lv_aload_n hx hb dX1_valueOf_0 rfl (lv_at hl 0 rfl) ?_
  refine c_gX1_steps hx hb hts hown hK hP (hts _ kw_278) dX1_valueOf_1 ?_
  refine lv_sipush (v := 3000) hx hb dX1_valueOf_4 (by decide) ?_
  refine jc_ge (tgt := 17) hx hb hf dX1_valueOf_7 (by decide) (fun hf => ?_) (fun hf => ?_)
  · exact (p_cX1_valueOf_b17 C hap dp hrec) σ hf H locs ls hP hS (lv_sub hl [0] rfl)
  · refine lv_iload hx hb dX1_valueOf_10 (lv_at hl 4 rfl) ?_
    refine lv_bipush (v := 40) hx hb dX1_valueOf_12 (by decide) ?_
    refine jc_lt (tgt := 23) hx hb hf dX1_valueOf_14 (by decide) (fun hf => ?_) (fun hf => ?_)
    · refine lv_aload_n hx hb dX1_valueOf_23 rfl (lv_at hl 0 rfl) ?_
      refine lv_dup hx hb dX1_valueOf_24 rfl ?_
      refine c_gX1_steps hx hb hts hown hK hP (hts _ kw_278) dX1_valueOf_25 ?_
      refine lv_iconst (v := 1) hx hb dX1_valueOf_28 (by decide) ?_
      refine lv_iadd hx hb dX1_valueOf_29 ?_
      refine c_pX1_steps hx hb hts hown hK hap hP hS hf (hts _ kw_278) dX1_valueOf_30 (fun σ1 H locs hP hS hf => ?_)
      refine lv_aload_n hx hb dX1_valueOf_33 rfl (lv_at hl 0 rfl) ?_
      refine lv_dup hx hb dX1_valueOf_34 rfl ?_
      refine c_gX1_allSteps hx hb hts hown hK hP (hts _ kw_283) dX1_valueOf_35 ?_
      refine lv_iconst (v := 1) hx hb dX1_valueOf_38 (by decide) ?_
      refine lv_iadd hx hb dX1_valueOf_39 ?_
      refine c_pX1_allSteps hx hb hts hown hK hap hP hS hf (hts _ kw_283) dX1_valueOf_40 (fun σ2 H locs hP hS hf => ?_)
      refine lv_aload_n hx hb dX1_valueOf_43 rfl (lv_at hl 0 rfl) ?_
      refine c_gX1_terms hx hb hts hown hK hP (hts _ kw_275) dX1_valueOf_44 ?_
      refine c_gX8_kinds hx hb hts hown hK hP (hts _ kw_82) dX1_valueOf_47 ?_
      refine lv_iload_n hx hb dX1_valueOf_50 rfl (lv_at hl 1 rfl) ?_
      refine ja_ild hx hb hK hP 2 0 rfl rfl hf dX1_valueOf_51 (fun v3 hf => ?_)
      refine lv_istore (lv' := [(5, .int v3), (0, .ref (ad 22)), (1, .int x1), (2, .int x2), (3, .int x3), (4, .int x4)]) hx hb dX1_valueOf_52 hl (by decide) rfl (fun ls hl => ?_)
      refine lv_iload hx hb dX1_valueOf_54 (lv_at hl 0 rfl) ?_
      refine lv_bipush (v := 8) hx hb dX1_valueOf_56 (by decide) ?_
      refine jc_ge (tgt := 69) hx hb hf dX1_valueOf_58 (by decide) (fun hf => ?_) (fun hf => ?_)
      · refine lv_aload_n hx hb dX1_valueOf_69 rfl (lv_at hl 1 rfl) ?_
        refine lv_aload_n hx hb dX1_valueOf_70 rfl (lv_at hl 1 rfl) ?_
        refine c_gX1_terms hx hb hts hown hK hP (hts _ kw_275) dX1_valueOf_71 ?_
        refine c_gX8_partA hx hb hts hown hK hP (hts _ kw_84) dX1_valueOf_74 ?_
        refine lv_iload_n hx hb dX1_valueOf_77 rfl (lv_at hl 2 rfl) ?_
        refine ja_ild hx hb hK hP 3 0 rfl rfl hf dX1_valueOf_78 (fun v4 hf => ?_)
        refine lv_iload_n hx hb dX1_valueOf_79 rfl (lv_at hl 3 rfl) ?_
        refine lv_iload_n hx hb dX1_valueOf_80 rfl (lv_at hl 4 rfl) ?_
        refine lv_iload hx hb dX1_valueOf_81 (lv_at hl 5 rfl) ?_
        refine lv_iconst (v := 1) hx hb dX1_valueOf_83 (by decide) ?_
        refine lv_iadd hx hb dX1_valueOf_84 ?_
        refine jk_l hf (fun res hres => jv_run hx hb hml hown hts hK hN c_hG c_hNW hl.1 (n := 4) (As := [.int v4, .int x2, .int x3, .int (x4 + 1)]) (rest := []) (hrec σ2 v4 x2 x3 (x4 + 1) res hres) hP (ci := 1) (q0 := 22) rfl rfl rfl kw_559 kw_568 kw_558 kw_4 kw_60 ⟨rfl, rfl⟩ (by decide +kernel) rfl ⟨rm_cX1_valueOf_f dp, rm_cX1_valueOf_l dp⟩ rfl (Nat.le_of_ble_eq_true rfl) dX1_valueOf_85) hS (fun v5 σ6 H locs hP hS hf => ?_)
        refine lv_lstore (lv' := [(6, .long v5), (5, .int v3), (0, .ref (ad 22)), (1, .int x1), (2, .int x2), (3, .int x3), (4, .int x4)]) hx hb dX1_valueOf_88 hl (by decide) rfl (fun ls hl => ?_)
        refine lv_aload_n hx hb dX1_valueOf_90 rfl (lv_at hl 2 rfl) ?_
        refine c_gX1_fault hx hb hts hown hK hP (hts _ kw_280) dX1_valueOf_91 ?_
        refine jb_eq (tgt := 99) hx hb hf dX1_valueOf_94 (by decide) (fun hf => ?_) (fun hf => ?_)
        · refine lv_iload hx hb dX1_valueOf_99 (lv_at hl 1 rfl) ?_
          refine lv_bipush (v := 17) hx hb dX1_valueOf_101 (by decide) ?_
          refine jc_ne (tgt := 115) hx hb hf dX1_valueOf_103 (by decide) (fun hf => ?_) (fun hf => ?_)
          · refine lv_iload hx hb dX1_valueOf_115 (lv_at hl 1 rfl) ?_
            refine lv_bipush (v := 16) hx hb dX1_valueOf_117 (by decide) ?_
            refine jc_ne (tgt := 161) hx hb hf dX1_valueOf_119 (by decide) (fun hf => ?_) (fun hf => ?_)
            · refine lv_aload_n hx hb dX1_valueOf_161 rfl (lv_at hl 2 rfl) ?_
              refine lv_aload_n hx hb dX1_valueOf_162 rfl (lv_at hl 2 rfl) ?_
              refine c_gX1_terms hx hb hts hown hK hP (hts _ kw_275) dX1_valueOf_163 ?_
              refine c_gX8_partB hx hb hts hown hK hP (hts _ kw_86) dX1_valueOf_166 ?_
              refine lv_iload_n hx hb dX1_valueOf_169 rfl (lv_at hl 3 rfl) ?_
              refine ja_ild hx hb hK hP 4 0 rfl rfl hf dX1_valueOf_170 (fun v7 hf => ?_)
              refine lv_iload_n hx hb dX1_valueOf_171 rfl (lv_at hl 4 rfl) ?_
              refine lv_iload_n hx hb dX1_valueOf_172 rfl (lv_at hl 5 rfl) ?_
              refine lv_iload hx hb dX1_valueOf_173 (lv_at hl 6 rfl) ?_
              refine lv_iconst (v := 1) hx hb dX1_valueOf_175 (by decide) ?_
              refine lv_iadd hx hb dX1_valueOf_176 ?_
              refine jk_l hf (fun res hres => jv_run hx hb hml hown hts hK hN c_hG c_hNW hl.1 (n := 4) (As := [.int v7, .int x2, .int x3, .int (x4 + 1)]) (rest := []) (hrec σ6 v7 x2 x3 (x4 + 1) res hres) hP (ci := 1) (q0 := 22) rfl rfl rfl kw_559 kw_568 kw_558 kw_4 kw_60 ⟨rfl, rfl⟩ (by decide +kernel) rfl ⟨rm_cX1_valueOf_f dp, rm_cX1_valueOf_l dp⟩ rfl (Nat.le_of_ble_eq_true rfl) dX1_valueOf_177) hS (fun v8 σ9 H locs hP hS hf => ?_)
              refine lv_lstore (lv' := [(8, .long v8), (6, .long v5), (5, .int v3), (0, .ref (ad 22)), (1, .int x1), (2, .int x2), (3, .int x3), (4, .int x4)]) hx hb dX1_valueOf_180 hl (by decide) rfl (fun ls hl => ?_)
              refine lv_aload_n hx hb dX1_valueOf_182 rfl (lv_at hl 3 rfl) ?_
              refine c_gX1_fault hx hb hts hown hK hP (hts _ kw_280) dX1_valueOf_183 ?_
              refine jb_eq (tgt := 191) hx hb hf dX1_valueOf_186 (by decide) (fun hf => ?_) (fun hf => ?_)
              · refine lv_aload_n hx hb dX1_valueOf_191 rfl (lv_at hl 3 rfl) ?_
                refine lv_iload hx hb dX1_valueOf_192 (lv_at hl 2 rfl) ?_
                refine lv_lload hx hb dX1_valueOf_194 (lv_at hl 1 rfl) ?_
                refine lv_lload hx hb dX1_valueOf_196 (lv_at hl 0 rfl) ?_
                refine jk_l hf (fun res hres => jv_run hx hb hml hown hts hK hN c_hG c_hNW hl.1 (n := 3) (As := [.int v3, .long v5, .long v8]) (rest := []) (c_cX1_joined l hap σ9 v3 v5 v8 res hres) hP (ci := 1) (q0 := 22) rfl rfl rfl kw_576 kw_573 kw_575 kw_8 kw_60 ⟨rfl, rfl⟩ (by decide +kernel) rfl ⟨rm_cX1_valueOf_cf dp (by decide), rm_cX1_valueOf_cl dp (by decide)⟩ rfl (Nat.le_of_ble_eq_true rfl) dX1_valueOf_198) hS (fun v10 σ11 H locs hP hS hf => ?_)
                exact jr_l hx hb hr hlocks hf hP hS dX1_valueOf_201
              · refine lv_lconst (v := 0) hx hb dX1_valueOf_189 (by decide) ?_
                exact jr_l hx hb hr hlocks hf hP hS dX1_valueOf_190
            · refine lv_aload_n hx hb dX1_valueOf_122 rfl (lv_at hl 2 rfl) ?_
              refine lv_lload hx hb dX1_valueOf_123 (lv_at hl 0 rfl) ?_
              refine lv_lconst (v := 0) hx hb dX1_valueOf_125 (by decide) ?_
              refine jl_eq (tgt := 142) hx hb hf dX1_valueOf_126 dX1_valueOf_127 (by decide) (fun hf => ?_) (fun hf => ?_)
              · refine lv_aload_n hx hb dX1_valueOf_142 rfl (lv_at hl 2 rfl) ?_
                refine c_gX1_terms hx hb hts hown hK hP (hts _ kw_275) dX1_valueOf_143 ?_
                refine c_gX8_partC hx hb hts hown hK hP (hts _ kw_88) dX1_valueOf_146 ?_
                refine lv_iload_n hx hb dX1_valueOf_149 rfl (lv_at hl 3 rfl) ?_
                refine ja_ild hx hb hK hP 5 0 rfl rfl hf dX1_valueOf_150 (fun v12 hf => ?_)
                exact (p_cX1_valueOf_b151 C hap dp hrec) σ6 x2 x3 x4 v12 hf H locs ls hP hS (lv_sub hl [4, 5, 6] rfl)
              · refine lv_aload_n hx hb dX1_valueOf_130 rfl (lv_at hl 2 rfl) ?_
                refine c_gX1_terms hx hb hts hown hK hP (hts _ kw_275) dX1_valueOf_131 ?_
                refine c_gX8_partB hx hb hts hown hK hP (hts _ kw_86) dX1_valueOf_134 ?_
                refine lv_iload_n hx hb dX1_valueOf_137 rfl (lv_at hl 3 rfl) ?_
                refine ja_ild hx hb hK hP 4 0 rfl rfl hf dX1_valueOf_138 (fun v13 hf => ?_)
                refine lv_goto (tgt := 151) hx hb dX1_valueOf_139 (by decide) ?_
                exact (p_cX1_valueOf_b151 C hap dp hrec) σ6 x2 x3 x4 v13 hf H locs ls hP hS (lv_sub hl [4, 5, 6] rfl)
          · refine lv_aload_n hx hb dX1_valueOf_106 rfl (lv_at hl 2 rfl) ?_
            refine lv_iload_n hx hb dX1_valueOf_107 rfl (lv_at hl 4 rfl) ?_
            refine lv_lload hx hb dX1_valueOf_108 (lv_at hl 0 rfl) ?_
            refine lv_l2i (v := v5.toInt32) hx hb dX1_valueOf_110 rfl ?_
            refine jk_l hf (fun res hres => jv_run hx hb hml hown hts hK hN c_hG c_hNW hl.1 (n := 2) (As := [.int x2, .int v5.toInt32]) (rest := []) (c_cX1_stateAt l hap σ6 x2 v5.toInt32 res hres) hP (ci := 1) (q0 := 22) rfl rfl rfl kw_572 kw_569 kw_571 kw_7 kw_60 ⟨rfl, rfl⟩ (by decide +kernel) rfl ⟨rm_cX1_valueOf_cf dp (by decide), rm_cX1_valueOf_cl dp (by decide)⟩ rfl (Nat.le_of_ble_eq_true rfl) dX1_valueOf_111) hS (fun v14 σ15 H locs hP hS hf => ?_)
            exact jr_l hx hb hr hlocks hf hP hS dX1_valueOf_114
        · refine lv_lconst (v := 0) hx hb dX1_valueOf_97 (by decide) ?_
          exact jr_l hx hb hr hlocks hf hP hS dX1_valueOf_98
      · refine lv_aload_n hx hb dX1_valueOf_61 rfl (lv_at hl 1 rfl) ?_
        refine lv_iload_n hx hb dX1_valueOf_62 rfl (lv_at hl 2 rfl) ?_
        refine lv_iload_n hx hb dX1_valueOf_63 rfl (lv_at hl 3 rfl) ?_
        refine lv_iload_n hx hb dX1_valueOf_64 rfl (lv_at hl 4 rfl) ?_
        refine jk_l hf (fun res hres => jv_run hx hb hml hown hts hK hN c_hG c_hNW hl.1 (n := 3) (As := [.int x1, .int x2, .int x3]) (rest := []) (c_cX1_plainValue l hap σ2 x1 x2 x3 res hres) hP (ci := 1) (q0 := 22) rfl rfl rfl kw_567 kw_564 kw_566 kw_6 kw_60 ⟨rfl, rfl⟩ (by decide +kernel) rfl ⟨rm_cX1_valueOf_cf dp (by decide), rm_cX1_valueOf_cl dp (by decide)⟩ rfl (Nat.le_of_ble_eq_true rfl) dX1_valueOf_65) hS (fun v16 σ17 H locs hP hS hf => ?_)
        exact jr_l hx hb hr hlocks hf hP hS dX1_valueOf_68
    · exact (p_cX1_valueOf_b17 C hap dp hrec) σ hf H locs ls hP hS (lv_sub hl [0] rfl)
def r_cX1_valueOf : Nat → RS → Int32 → Int32 → Int32 → Int32 → Option (Int64 × RS) := kn_fix (fun _ _ _ _ _ => none) s_cX1_valueOf
theorem c_cX1_valueOf (l : Launch) {dC : Nat → ClassId} {dI : Nat → Nat → Nat} {kA : Nat → ClassId} {ad : Nat → Nat} (hap : jw_ap 57 ad) : ∀ (dp : Nat) (σ : RS) (x1 : Int32) (x2 : Int32) (x3 : Int32) (x4 : Int32) (res : Int64 × RS), r_cX1_valueOf dp σ x1 x2 x3 x4 = some res → jm_l l KW NW (dC, dI) vwCl (jtys kA) (jw_A 57 ad) (c_w kA ad) yX1_valueOf cX1_valueOf 10 (rm_cX1_valueOf dp) [.ref (ad 22), .int x1, .int x2, .int x3, .int x4] σ res
  | 0, _, _, _, _, _, _, hf => by cases hf
  | dp + 1, σ, x1, x2, x3, x4, res, hf => jm_l_of (by decide) (Nat.le_of_ble_eq_true rfl) (fun p e s m below meth c C hP hS ls hl => p_cX1_valueOf C hap dp (c_cX1_valueOf l hap dp) σ x1 x2 x3 x4 hf s.heap [] ls hP hS hl)
