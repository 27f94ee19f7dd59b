theorem dX1_setFolded_0 : decode cX1_setFolded 0 = .ok (.aload_n 0, 1) := by decide +kernel
theorem dX1_setFolded_1 : decode cX1_setFolded 1 = .ok (.lload_n 1, 1) := by decide +kernel
theorem dX1_setFolded_2 : decode cX1_setFolded 2 = .ok (.putfield 30, 3) := by decide +kernel
theorem dX1_setFolded_5 : decode cX1_setFolded 5 = .ok (.aload_n 0, 1) := by decide +kernel
theorem dX1_setFolded_6 : decode cX1_setFolded 6 = .ok (.iload_n 3, 1) := by decide +kernel
theorem dX1_setFolded_7 : decode cX1_setFolded 7 = .ok (.putfield 34, 3) := by decide +kernel
theorem dX1_setFolded_10 : decode cX1_setFolded 10 = .ok (.return_, 1) := by decide +kernel
theorem dX1_plainValue_0 : decode cX1_plainValue 0 = .ok (.aload_n 0, 1) := by decide +kernel
theorem dX1_plainValue_1 : decode cX1_plainValue 1 = .ok (.getfield 9, 3) := by decide +kernel
theorem dX1_plainValue_4 : decode cX1_plainValue 4 = .ok (.getfield 44, 3) := by decide +kernel
theorem dX1_plainValue_7 : decode cX1_plainValue 7 = .ok (.iload_n 1, 1) := by decide +kernel
theorem dX1_plainValue_8 : decode cX1_plainValue 8 = .ok (.iaload, 1) := by decide +kernel
theorem dX1_plainValue_9 : decode cX1_plainValue 9 = .ok (.tableswitch 126 1 7 #[43, 66, 85, 90, 96, 107, 118], 43) := by decide +kernel
theorem dX1_plainValue_52 : decode cX1_plainValue 52 = .ok (.aload_n 0, 1) := by decide +kernel
theorem dX1_plainValue_53 : decode cX1_plainValue 53 = .ok (.getfield 15, 3) := by decide +kernel
theorem dX1_plainValue_56 : decode cX1_plainValue 56 = .ok (.getfield 75, 3) := by decide +kernel
theorem dX1_plainValue_59 : decode cX1_plainValue 59 = .ok (.iload_n 2, 1) := by decide +kernel
theorem dX1_plainValue_60 : decode cX1_plainValue 60 = .ok (.iconst 3, 1) := by decide +kernel
theorem dX1_plainValue_61 : decode cX1_plainValue 61 = .ok (.imul, 1) := by decide +kernel
theorem dX1_plainValue_62 : decode cX1_plainValue 62 = .ok (.aload_n 0, 1) := by decide +kernel
theorem dX1_plainValue_63 : decode cX1_plainValue 63 = .ok (.getfield 9, 3) := by decide +kernel
theorem dX1_plainValue_66 : decode cX1_plainValue 66 = .ok (.getfield 81, 3) := by decide +kernel
theorem dX1_plainValue_69 : decode cX1_plainValue 69 = .ok (.iload_n 1, 1) := by decide +kernel
theorem dX1_plainValue_70 : decode cX1_plainValue 70 = .ok (.laload, 1) := by decide +kernel
theorem dX1_plainValue_71 : decode cX1_plainValue 71 = .ok (.l2i, 1) := by decide +kernel
theorem dX1_plainValue_72 : decode cX1_plainValue 72 = .ok (.iadd, 1) := by decide +kernel
theorem dX1_plainValue_73 : decode cX1_plainValue 73 = .ok (.laload, 1) := by decide +kernel
theorem dX1_plainValue_74 : decode cX1_plainValue 74 = .ok (.lreturn, 1) := by decide +kernel
theorem dX1_plainValue_75 : decode cX1_plainValue 75 = .ok (.iload_n 3, 1) := by decide +kernel
theorem dX1_plainValue_76 : decode cX1_plainValue 76 = .ok (.iconst (-1), 1) := by decide +kernel
theorem dX1_plainValue_77 : decode cX1_plainValue 77 = .ok (.if_icmp .ne 7, 3) := by decide +kernel
theorem dX1_plainValue_80 : decode cX1_plainValue 80 = .ok (.lconst 0, 1) := by decide +kernel
theorem dX1_plainValue_81 : decode cX1_plainValue 81 = .ok (.goto 12, 3) := by decide +kernel
theorem dX1_plainValue_84 : decode cX1_plainValue 84 = .ok (.aload_n 0, 1) := by decide +kernel
theorem dX1_plainValue_85 : decode cX1_plainValue 85 = .ok (.getfield 15, 3) := by decide +kernel
theorem dX1_plainValue_88 : decode cX1_plainValue 88 = .ok (.getfield 84, 3) := by decide +kernel
theorem dX1_plainValue_91 : decode cX1_plainValue 91 = .ok (.iload_n 3, 1) := by decide +kernel
theorem dX1_plainValue_92 : decode cX1_plainValue 92 = .ok (.laload, 1) := by decide +kernel
theorem dX1_plainValue_93 : decode cX1_plainValue 93 = .ok (.lreturn, 1) := by decide +kernel
theorem dX1_plainValue_94 : decode cX1_plainValue 94 = .ok (.aload_n 0, 1) := by decide +kernel
theorem dX1_plainValue_95 : decode cX1_plainValue 95 = .ok (.getfield 30, 3) := by decide +kernel
theorem dX1_plainValue_98 : decode cX1_plainValue 98 = .ok (.lreturn, 1) := by decide +kernel
theorem dX1_plainValue_99 : decode cX1_plainValue 99 = .ok (.aload_n 0, 1) := by decide +kernel
theorem dX1_plainValue_100 : decode cX1_plainValue 100 = .ok (.getfield 34, 3) := by decide +kernel
theorem dX1_plainValue_103 : decode cX1_plainValue 103 = .ok (.i2l, 1) := by decide +kernel
theorem dX1_plainValue_104 : decode cX1_plainValue 104 = .ok (.lreturn, 1) := by decide +kernel
theorem dX1_plainValue_105 : decode cX1_plainValue 105 = .ok (.aload_n 0, 1) := by decide +kernel
theorem dX1_plainValue_106 : decode cX1_plainValue 106 = .ok (.getfield 15, 3) := by decide +kernel
theorem dX1_plainValue_109 : decode cX1_plainValue 109 = .ok (.getfield 87, 3) := by decide +kernel
theorem dX1_plainValue_112 : decode cX1_plainValue 112 = .ok (.iconst 1, 1) := by decide +kernel
theorem dX1_plainValue_113 : decode cX1_plainValue 113 = .ok (.iadd, 1) := by decide +kernel
theorem dX1_plainValue_114 : decode cX1_plainValue 114 = .ok (.i2l, 1) := by decide +kernel
theorem dX1_plainValue_115 : decode cX1_plainValue 115 = .ok (.lreturn, 1) := by decide +kernel
theorem dX1_plainValue_116 : decode cX1_plainValue 116 = .ok (.aload_n 0, 1) := by decide +kernel
theorem dX1_plainValue_117 : decode cX1_plainValue 117 = .ok (.getfield 15, 3) := by decide +kernel
theorem dX1_plainValue_120 : decode cX1_plainValue 120 = .ok (.getfield 90, 3) := by decide +kernel
theorem dX1_plainValue_123 : decode cX1_plainValue 123 = .ok (.iload_n 2, 1) := by decide +kernel
theorem dX1_plainValue_124 : decode cX1_plainValue 124 = .ok (.iaload, 1) := by decide +kernel
theorem dX1_plainValue_125 : decode cX1_plainValue 125 = .ok (.i2l, 1) := by decide +kernel
theorem dX1_plainValue_126 : decode cX1_plainValue 126 = .ok (.lreturn, 1) := by decide +kernel
theorem dX1_plainValue_127 : decode cX1_plainValue 127 = .ok (.aload_n 0, 1) := by decide +kernel
theorem dX1_plainValue_128 : decode cX1_plainValue 128 = .ok (.getfield 15, 3) := by decide +kernel
theorem dX1_plainValue_131 : decode cX1_plainValue 131 = .ok (.getfield 93, 3) := by decide +kernel
theorem dX1_plainValue_134 : decode cX1_plainValue 134 = .ok (.lreturn, 1) := by decide +kernel
theorem dX1_plainValue_135 : decode cX1_plainValue 135 = .ok (.aload_n 0, 1) := by decide +kernel
theorem dX1_plainValue_136 : decode cX1_plainValue 136 = .ok (.getfield 9, 3) := by decide +kernel
theorem dX1_plainValue_139 : decode cX1_plainValue 139 = .ok (.getfield 81, 3) := by decide +kernel
theorem dX1_plainValue_142 : decode cX1_plainValue 142 = .ok (.iload_n 1, 1) := by decide +kernel
theorem dX1_plainValue_143 : decode cX1_plainValue 143 = .ok (.laload, 1) := by decide +kernel
theorem dX1_plainValue_144 : decode cX1_plainValue 144 = .ok (.lreturn, 1) := by decide +kernel
theorem dX1_stateAt_0 : decode cX1_stateAt 0 = .ok (.iload_n 2, 1) := by decide +kernel
theorem dX1_stateAt_1 : decode cX1_stateAt 1 = .ok (.ifCond .lt 22, 3) := by decide +kernel
theorem dX1_stateAt_4 : decode cX1_stateAt 4 = .ok (.iload_n 2, 1) := by decide +kernel
theorem dX1_stateAt_5 : decode cX1_stateAt 5 = .ok (.iconst 3, 1) := by decide +kernel
theorem dX1_stateAt_6 : decode cX1_stateAt 6 = .ok (.if_icmp .ge 17, 3) := by decide +kernel
theorem dX1_stateAt_9 : decode cX1_stateAt 9 = .ok (.aload_n 0, 1) := by decide +kernel
theorem dX1_stateAt_10 : decode cX1_stateAt 10 = .ok (.getfield 15, 3) := by decide +kernel
theorem dX1_stateAt_13 : decode cX1_stateAt 13 = .ok (.getfield 75, 3) := by decide +kernel
theorem dX1_stateAt_16 : decode cX1_stateAt 16 = .ok (.iload_n 1, 1) := by decide +kernel
theorem dX1_stateAt_17 : decode cX1_stateAt 17 = .ok (.iconst 3, 1) := by decide +kernel
theorem dX1_stateAt_18 : decode cX1_stateAt 18 = .ok (.imul, 1) := by decide +kernel
theorem dX1_stateAt_19 : decode cX1_stateAt 19 = .ok (.iload_n 2, 1) := by decide +kernel
theorem dX1_stateAt_20 : decode cX1_stateAt 20 = .ok (.iadd, 1) := by decide +kernel
theorem dX1_stateAt_21 : decode cX1_stateAt 21 = .ok (.laload, 1) := by decide +kernel
theorem dX1_stateAt_22 : decode cX1_stateAt 22 = .ok (.lreturn, 1) := by decide +kernel
theorem dX1_stateAt_23 : decode cX1_stateAt 23 = .ok (.aload_n 0, 1) := by decide +kernel
theorem dX1_stateAt_24 : decode cX1_stateAt 24 = .ok (.iconst 2, 1) := by decide +kernel
theorem dX1_stateAt_25 : decode cX1_stateAt 25 = .ok (.putfield 23, 3) := by decide +kernel
theorem dX1_stateAt_28 : decode cX1_stateAt 28 = .ok (.lconst 0, 1) := by decide +kernel
theorem dX1_stateAt_29 : decode cX1_stateAt 29 = .ok (.lreturn, 1) := by decide +kernel
theorem dX1_joined_0 : decode cX1_joined 0 = .ok (.iload_n 1, 1) := by decide +kernel
theorem dX1_joined_1 : decode cX1_joined 1 = .ok (.tableswitch 103 8 15 #[47, 52, 57, 103, 103, 62, 76, 90], 47) := by decide +kernel
theorem dX1_joined_48 : decode cX1_joined 48 = .ok (.lload_n 2, 1) := by decide +kernel
theorem dX1_joined_49 : decode cX1_joined 49 = .ok (.lload 4, 2) := by decide +kernel
theorem dX1_joined_51 : decode cX1_joined 51 = .ok (.ladd, 1) := by decide +kernel
theorem dX1_joined_52 : decode cX1_joined 52 = .ok (.lreturn, 1) := by decide +kernel
theorem dX1_joined_53 : decode cX1_joined 53 = .ok (.lload_n 2, 1) := by decide +kernel
theorem dX1_joined_54 : decode cX1_joined 54 = .ok (.lload 4, 2) := by decide +kernel
theorem dX1_joined_56 : decode cX1_joined 56 = .ok (.lsub, 1) := by decide +kernel
theorem dX1_joined_57 : decode cX1_joined 57 = .ok (.lreturn, 1) := by decide +kernel
theorem dX1_joined_58 : decode cX1_joined 58 = .ok (.lload_n 2, 1) := by decide +kernel
theorem dX1_joined_59 : decode cX1_joined 59 = .ok (.lload 4, 2) := by decide +kernel
theorem dX1_joined_61 : decode cX1_joined 61 = .ok (.lmul, 1) := by decide +kernel
theorem dX1_joined_62 : decode cX1_joined 62 = .ok (.lreturn, 1) := by decide +kernel
theorem dX1_joined_63 : decode cX1_joined 63 = .ok (.lload_n 2, 1) := by decide +kernel
theorem dX1_joined_64 : decode cX1_joined 64 = .ok (.lload 4, 2) := by decide +kernel
theorem dX1_joined_66 : decode cX1_joined 66 = .ok (.lcmp, 1) := by decide +kernel
theorem dX1_joined_67 : decode cX1_joined 67 = .ok (.ifCond .ge 7, 3) := by decide +kernel
theorem dX1_joined_70 : decode cX1_joined 70 = .ok (.lload_n 2, 1) := by decide +kernel
theorem dX1_joined_71 : decode cX1_joined 71 = .ok (.goto 5, 3) := by decide +kernel
theorem dX1_joined_74 : decode cX1_joined 74 = .ok (.lload 4, 2) := by decide +kernel
theorem dX1_joined_76 : decode cX1_joined 76 = .ok (.lreturn, 1) := by decide +kernel
theorem dX1_joined_77 : decode cX1_joined 77 = .ok (.lload_n 2, 1) := by decide +kernel
theorem dX1_joined_78 : decode cX1_joined 78 = .ok (.lload 4, 2) := by decide +kernel
theorem dX1_joined_80 : decode cX1_joined 80 = .ok (.lcmp, 1) := by decide +kernel
theorem dX1_joined_81 : decode cX1_joined 81 = .ok (.ifCond .le 7, 3) := by decide +kernel
theorem dX1_joined_84 : decode cX1_joined 84 = .ok (.lload_n 2, 1) := by decide +kernel
theorem dX1_joined_85 : decode cX1_joined 85 = .ok (.goto 5, 3) := by decide +kernel
theorem dX1_joined_88 : decode cX1_joined 88 = .ok (.lload 4, 2) := by decide +kernel
theorem dX1_joined_90 : decode cX1_joined 90 = .ok (.lreturn, 1) := by decide +kernel
theorem dX1_joined_91 : decode cX1_joined 91 = .ok (.lload_n 2, 1) := by decide +kernel
theorem dX1_joined_92 : decode cX1_joined 92 = .ok (.lload 4, 2) := by decide +kernel
theorem dX1_joined_94 : decode cX1_joined 94 = .ok (.lcmp, 1) := by decide +kernel
theorem dX1_joined_95 : decode cX1_joined 95 = .ok (.ifCond .ge 7, 3) := by decide +kernel
theorem dX1_joined_98 : decode cX1_joined 98 = .ok (.lconst 1, 1) := by decide +kernel
theorem dX1_joined_99 : decode cX1_joined 99 = .ok (.goto 4, 3) := by decide +kernel
theorem dX1_joined_102 : decode cX1_joined 102 = .ok (.lconst 0, 1) := by decide +kernel
theorem dX1_joined_103 : decode cX1_joined 103 = .ok (.lreturn, 1) := by decide +kernel
theorem dX1_joined_104 : decode cX1_joined 104 = .ok (.lload 4, 2) := by decide +kernel
theorem dX1_joined_106 : decode cX1_joined 106 = .ok (.lconst 0, 1) := by decide +kernel
theorem dX1_joined_107 : decode cX1_joined 107 = .ok (.lcmp, 1) := by decide +kernel
theorem dX1_joined_108 : decode cX1_joined 108 = .ok (.ifCond .eq 21, 3) := by decide +kernel
theorem dX1_joined_111 : decode cX1_joined 111 = .ok (.iload_n 1, 1) := by decide +kernel
theorem dX1_joined_112 : decode cX1_joined 112 = .ok (.bipush 11, 2) := by decide +kernel
theorem dX1_joined_114 : decode cX1_joined 114 = .ok (.if_icmp .ne 10, 3) := by decide +kernel
theorem dX1_joined_117 : decode cX1_joined 117 = .ok (.lload_n 2, 1) := by decide +kernel
theorem dX1_joined_118 : decode cX1_joined 118 = .ok (.lload 4, 2) := by decide +kernel
theorem dX1_joined_120 : decode cX1_joined 120 = .ok (.ldiv, 1) := by decide +kernel
theorem dX1_joined_121 : decode cX1_joined 121 = .ok (.goto 7, 3) := by decide +kernel
theorem dX1_joined_124 : decode cX1_joined 124 = .ok (.lload_n 2, 1) := by decide +kernel
theorem dX1_joined_125 : decode cX1_joined 125 = .ok (.lload 4, 2) := by decide +kernel
theorem dX1_joined_127 : decode cX1_joined 127 = .ok (.lrem, 1) := by decide +kernel
theorem dX1_joined_128 : decode cX1_joined 128 = .ok (.lreturn, 1) := by decide +kernel
theorem dX1_joined_129 : decode cX1_joined 129 = .ok (.aload_n 0, 1) := by decide +kernel
theorem dX1_joined_130 : decode cX1_joined 130 = .ok (.iconst 1, 1) := by decide +kernel
theorem dX1_joined_131 : decode cX1_joined 131 = .ok (.putfield 23, 3) := by decide +kernel
theorem dX1_joined_134 : decode cX1_joined 134 = .ok (.lconst 0, 1) := by decide +kernel
theorem dX1_joined_135 : decode cX1_joined 135 = .ok (.lreturn, 1) := by decide +kernel
theorem dX1_fails_0 : decode cX1_fails 0 = .ok (.aload_n 0, 1) := by decide +kernel
theorem dX1_fails_1 : decode cX1_fails 1 = .ok (.iload_n 1, 1) := by decide +kernel
theorem dX1_fails_2 : decode cX1_fails 2 = .ok (.putfield 23, 3) := by decide +kernel
theorem dX1_fails_5 : decode cX1_fails 5 = .ok (.lconst 0, 1) := by decide +kernel
theorem dX1_fails_6 : decode cX1_fails 6 = .ok (.lreturn, 1) := by decide +kernel
theorem dX2_clear_0 : decode cX2_clear 0 = .ok (.aload_n 0, 1) := by decide +kernel
theorem dX2_clear_1 : decode cX2_clear 1 = .ok (.iconst 0, 1) := by decide +kernel
theorem dX2_clear_2 : decode cX2_clear 2 = .ok (.putfield 9, 3) := by decide +kernel
theorem dX2_clear_5 : decode cX2_clear 5 = .ok (.return_, 1) := by decide +kernel
theorem dX2_is_0 : decode cX2_is 0 = .ok (.aload_n 0, 1) := by decide +kernel
theorem dX2_is_1 : decode cX2_is 1 = .ok (.getfield 9, 3) := by decide +kernel
theorem dX2_is_4 : decode cX2_is 4 = .ok (.ifCond .eq 7, 3) := by decide +kernel
theorem dX2_is_7 : decode cX2_is 7 = .ok (.iconst 1, 1) := by decide +kernel
theorem dX2_is_8 : decode cX2_is 8 = .ok (.goto 4, 3) := by decide +kernel
theorem dX2_is_11 : decode cX2_is 11 = .ok (.iconst 0, 1) := by decide +kernel
theorem dX2_is_12 : decode cX2_is 12 = .ok (.ireturn, 1) := by decide +kernel
theorem dX2_keep_0 : decode cX2_keep 0 = .ok (.aload_n 0, 1) := by decide +kernel
theorem dX2_keep_1 : decode cX2_keep 1 = .ok (.iload_n 1, 1) := by decide +kernel
theorem dX2_keep_2 : decode cX2_keep 2 = .ok (.putfield 9, 3) := by decide +kernel
theorem dX2_keep_5 : decode cX2_keep 5 = .ok (.aload_n 0, 1) := by decide +kernel
theorem dX2_keep_6 : decode cX2_keep 6 = .ok (.iload_n 2, 1) := by decide +kernel
theorem dX2_keep_7 : decode cX2_keep 7 = .ok (.putfield 15, 3) := by decide +kernel
theorem dX2_keep_10 : decode cX2_keep 10 = .ok (.aload_n 0, 1) := by decide +kernel
theorem dX2_keep_11 : decode cX2_keep 11 = .ok (.iload_n 3, 1) := by decide +kernel
theorem dX2_keep_12 : decode cX2_keep 12 = .ok (.putfield 18, 3) := by decide +kernel
theorem dX2_keep_15 : decode cX2_keep 15 = .ok (.aload_n 0, 1) := by decide +kernel
theorem dX2_keep_16 : decode cX2_keep 16 = .ok (.iload 4, 2) := by decide +kernel
theorem dX2_keep_18 : decode cX2_keep 18 = .ok (.putfield 21, 3) := by decide +kernel
theorem dX2_keep_21 : decode cX2_keep 21 = .ok (.aload_n 0, 1) := by decide +kernel
theorem dX2_keep_22 : decode cX2_keep 22 = .ok (.iload 5, 2) := by decide +kernel
theorem dX2_keep_24 : decode cX2_keep 24 = .ok (.putfield 24, 3) := by decide +kernel
theorem dX2_keep_27 : decode cX2_keep 27 = .ok (.return_, 1) := by decide +kernel
theorem dX2_tell_0 : decode cX2_tell 0 = .ok (.iload_n 1, 1) := by decide +kernel
theorem dX2_tell_1 : decode cX2_tell 1 = .ok (.ifCond .lt 8, 3) := by decide +kernel
theorem dX2_tell_4 : decode cX2_tell 4 = .ok (.iload_n 1, 1) := by decide +kernel
theorem dX2_tell_5 : decode cX2_tell 5 = .ok (.iconst 4, 1) := by decide +kernel
theorem dX2_tell_6 : decode cX2_tell 6 = .ok (.if_icmp .le 6, 3) := by decide +kernel
theorem dX2_tell_9 : decode cX2_tell 9 = .ok (.bipush (-102), 2) := by decide +kernel
theorem dX2_tell_11 : decode cX2_tell 11 = .ok (.ireturn, 1) := by decide +kernel
theorem dX2_tell_12 : decode cX2_tell 12 = .ok (.iload_n 1, 1) := by decide +kernel
theorem dX2_tell_13 : decode cX2_tell 13 = .ok (.ifCond .ne 8, 3) := by decide +kernel
theorem dX2_tell_16 : decode cX2_tell 16 = .ok (.aload_n 0, 1) := by decide +kernel
theorem dX2_tell_17 : decode cX2_tell 17 = .ok (.getfield 9, 3) := by decide +kernel
theorem dX2_tell_20 : decode cX2_tell 20 = .ok (.ireturn, 1) := by decide +kernel
theorem dX2_tell_21 : decode cX2_tell 21 = .ok (.aload_n 0, 1) := by decide +kernel
theorem dX2_tell_22 : decode cX2_tell 22 = .ok (.getfield 9, 3) := by decide +kernel
theorem dX2_tell_25 : decode cX2_tell 25 = .ok (.ifCond .ne 5, 3) := by decide +kernel
theorem dX2_tell_28 : decode cX2_tell 28 = .ok (.iconst (-1), 1) := by decide +kernel
theorem dX2_tell_29 : decode cX2_tell 29 = .ok (.ireturn, 1) := by decide +kernel
theorem dX2_tell_30 : decode cX2_tell 30 = .ok (.iload_n 1, 1) := by decide +kernel
theorem dX2_tell_31 : decode cX2_tell 31 = .ok (.tableswitch 40 1 3 #[25, 30, 35], 25) := by decide +kernel
theorem dX2_tell_56 : decode cX2_tell 56 = .ok (.aload_n 0, 1) := by decide +kernel
theorem dX2_tell_57 : decode cX2_tell 57 = .ok (.getfield 15, 3) := by decide +kernel
theorem dX2_tell_60 : decode cX2_tell 60 = .ok (.ireturn, 1) := by decide +kernel
theorem dX2_tell_61 : decode cX2_tell 61 = .ok (.aload_n 0, 1) := by decide +kernel
theorem dX2_tell_62 : decode cX2_tell 62 = .ok (.getfield 18, 3) := by decide +kernel
theorem dX2_tell_65 : decode cX2_tell 65 = .ok (.ireturn, 1) := by decide +kernel
theorem dX2_tell_66 : decode cX2_tell 66 = .ok (.aload_n 0, 1) := by decide +kernel
theorem dX2_tell_67 : decode cX2_tell 67 = .ok (.getfield 21, 3) := by decide +kernel
theorem dX2_tell_70 : decode cX2_tell 70 = .ok (.ireturn, 1) := by decide +kernel
theorem dX2_tell_71 : decode cX2_tell 71 = .ok (.aload_n 0, 1) := by decide +kernel
theorem dX2_tell_72 : decode cX2_tell 72 = .ok (.getfield 24, 3) := by decide +kernel
theorem dX2_tell_75 : decode cX2_tell 75 = .ok (.ireturn, 1) := by decide +kernel
theorem dX4_take_0 : decode cX4_take 0 = .ok (.aload_n 1, 1) := by decide +kernel
theorem dX4_take_1 : decode cX4_take 1 = .ok (.getfield 19, 3) := by decide +kernel
theorem dX4_take_4 : decode cX4_take 4 = .ok (.iconst 0, 1) := by decide +kernel
theorem dX4_take_5 : decode cX4_take 5 = .ok (.aload_n 0, 1) := by decide +kernel
theorem dX4_take_6 : decode cX4_take 6 = .ok (.getfield 9, 3) := by decide +kernel
theorem dX4_take_9 : decode cX4_take 9 = .ok (.iconst 0, 1) := by decide +kernel
theorem dX4_take_10 : decode cX4_take 10 = .ok (.aload_n 0, 1) := by decide +kernel
theorem dX4_take_11 : decode cX4_take 11 = .ok (.getfield 9, 3) := by decide +kernel
theorem dX4_take_14 : decode cX4_take 14 = .ok (.arraylength, 1) := by decide +kernel
theorem dX4_take_15 : decode cX4_take 15 = .ok (.invokestatic 22, 3) := by decide +kernel
theorem dX4_take_18 : decode cX4_take 18 = .ok (.iconst 0, 1) := by decide +kernel
theorem dX4_take_19 : decode cX4_take 19 = .ok (.istore_n 2, 1) := by decide +kernel
theorem dX4_take_20 : decode cX4_take 20 = .ok (.iload_n 2, 1) := by decide +kernel
theorem dX4_take_21 : decode cX4_take 21 = .ok (.bipush 12, 2) := by decide +kernel
theorem dX4_take_23 : decode cX4_take 23 = .ok (.if_icmp .ge 21, 3) := by decide +kernel
theorem dX4_take_26 : decode cX4_take 26 = .ok (.aload_n 0, 1) := by decide +kernel
theorem dX4_take_27 : decode cX4_take 27 = .ok (.getfield 15, 3) := by decide +kernel
theorem dX4_take_30 : decode cX4_take 30 = .ok (.iload_n 2, 1) := by decide +kernel
theorem dX4_take_31 : decode cX4_take 31 = .ok (.aload_n 1, 1) := by decide +kernel
theorem dX4_take_32 : decode cX4_take 32 = .ok (.getfield 28, 3) := by decide +kernel
theorem dX4_take_35 : decode cX4_take 35 = .ok (.iload_n 2, 1) := by decide +kernel
theorem dX4_take_36 : decode cX4_take 36 = .ok (.baload, 1) := by decide +kernel
theorem dX4_take_37 : decode cX4_take 37 = .ok (.bastore, 1) := by decide +kernel
theorem dX4_take_38 : decode cX4_take 38 = .ok (.iinc 2 1, 3) := by decide +kernel
theorem dX4_take_41 : decode cX4_take 41 = .ok (.goto (-21), 3) := by decide +kernel
theorem dX4_take_44 : decode cX4_take 44 = .ok (.aload_n 0, 1) := by decide +kernel
theorem dX4_take_45 : decode cX4_take 45 = .ok (.aload_n 1, 1) := by decide +kernel
theorem dX4_take_46 : decode cX4_take 46 = .ok (.getfield 29, 3) := by decide +kernel
theorem dX4_take_49 : decode cX4_take 49 = .ok (.putfield 33, 3) := by decide +kernel
theorem dX4_take_52 : decode cX4_take 52 = .ok (.aload_n 0, 1) := by decide +kernel
theorem dX4_take_53 : decode cX4_take 53 = .ok (.aload_n 1, 1) := by decide +kernel
theorem dX4_take_54 : decode cX4_take 54 = .ok (.getfield 34, 3) := by decide +kernel
theorem dX4_take_57 : decode cX4_take 57 = .ok (.putfield 38, 3) := by decide +kernel
theorem dX4_take_60 : decode cX4_take 60 = .ok (.return_, 1) := by decide +kernel
theorem dX4_giveBack_0 : decode cX4_giveBack 0 = .ok (.aload_n 0, 1) := by decide +kernel
theorem dX4_giveBack_1 : decode cX4_giveBack 1 = .ok (.getfield 9, 3) := by decide +kernel
theorem dX4_giveBack_4 : decode cX4_giveBack 4 = .ok (.iconst 0, 1) := by decide +kernel
theorem dX4_giveBack_5 : decode cX4_giveBack 5 = .ok (.aload_n 1, 1) := by decide +kernel
theorem dX4_giveBack_6 : decode cX4_giveBack 6 = .ok (.getfield 19, 3) := by decide +kernel
theorem dX4_giveBack_9 : decode cX4_giveBack 9 = .ok (.iconst 0, 1) := by decide +kernel
theorem dX4_giveBack_10 : decode cX4_giveBack 10 = .ok (.aload_n 0, 1) := by decide +kernel
theorem dX4_giveBack_11 : decode cX4_giveBack 11 = .ok (.getfield 9, 3) := by decide +kernel
theorem dX4_giveBack_14 : decode cX4_giveBack 14 = .ok (.arraylength, 1) := by decide +kernel
theorem dX4_giveBack_15 : decode cX4_giveBack 15 = .ok (.invokestatic 22, 3) := by decide +kernel
theorem dX4_giveBack_18 : decode cX4_giveBack 18 = .ok (.iconst 0, 1) := by decide +kernel
theorem dX4_giveBack_19 : decode cX4_giveBack 19 = .ok (.istore_n 2, 1) := by decide +kernel
theorem dX4_giveBack_20 : decode cX4_giveBack 20 = .ok (.iload_n 2, 1) := by decide +kernel
theorem dX4_giveBack_21 : decode cX4_giveBack 21 = .ok (.bipush 12, 2) := by decide +kernel
theorem dX4_giveBack_23 : decode cX4_giveBack 23 = .ok (.if_icmp .ge 21, 3) := by decide +kernel
theorem dX4_giveBack_26 : decode cX4_giveBack 26 = .ok (.aload_n 1, 1) := by decide +kernel
theorem dX4_giveBack_27 : decode cX4_giveBack 27 = .ok (.getfield 28, 3) := by decide +kernel
theorem dX4_giveBack_30 : decode cX4_giveBack 30 = .ok (.iload_n 2, 1) := by decide +kernel
theorem dX4_giveBack_31 : decode cX4_giveBack 31 = .ok (.aload_n 0, 1) := by decide +kernel
theorem dX4_giveBack_32 : decode cX4_giveBack 32 = .ok (.getfield 15, 3) := by decide +kernel
theorem dX4_giveBack_35 : decode cX4_giveBack 35 = .ok (.iload_n 2, 1) := by decide +kernel
theorem dX4_giveBack_36 : decode cX4_giveBack 36 = .ok (.baload, 1) := by decide +kernel
theorem dX4_giveBack_37 : decode cX4_giveBack 37 = .ok (.bastore, 1) := by decide +kernel
theorem dX4_giveBack_38 : decode cX4_giveBack 38 = .ok (.iinc 2 1, 3) := by decide +kernel
theorem dX4_giveBack_41 : decode cX4_giveBack 41 = .ok (.goto (-21), 3) := by decide +kernel
theorem dX4_giveBack_44 : decode cX4_giveBack 44 = .ok (.aload_n 1, 1) := by decide +kernel
theorem dX4_giveBack_45 : decode cX4_giveBack 45 = .ok (.aload_n 0, 1) := by decide +kernel
theorem dX4_giveBack_46 : decode cX4_giveBack 46 = .ok (.getfield 33, 3) := by decide +kernel
theorem dX4_giveBack_49 : decode cX4_giveBack 49 = .ok (.putfield 29, 3) := by decide +kernel
theorem dX4_giveBack_52 : decode cX4_giveBack 52 = .ok (.aload_n 1, 1) := by decide +kernel
theorem dX4_giveBack_53 : decode cX4_giveBack 53 = .ok (.aload_n 0, 1) := by decide +kernel
theorem dX4_giveBack_54 : decode cX4_giveBack 54 = .ok (.getfield 38, 3) := by decide +kernel
theorem dX4_giveBack_57 : decode cX4_giveBack 57 = .ok (.putfield 34, 3) := by decide +kernel
theorem dX4_giveBack_60 : decode cX4_giveBack 60 = .ok (.return_, 1) := by decide +kernel
def rm_cX1_setFolded : Room := { frames := 0, cells := 0, slots := 0, locals := 0 }
def G_cX1_setFolded (p : Program) (l : Launch) (e : Env) (s : State) (m : MethodId) (args : Array Value) (below : List Frame) (meth : Method) (c : Code) (dC : Nat → ClassId) (dI : Nat → Nat → Nat) (kA : Nat → ClassId) (ad : Nat → Nat) (res : RS) (F : RS → Int64 → Int32 → Option (RS)) : Prop := ∀ (σ : RS) (x1 : Int64) (x3 : Int32), F σ x1 x3 = some res → ∀ (H : Heap) (locs : List Loc) (ls : Array Slot), va_P (dC, dI) vwCl (c_w kA ad σ) H → va_S (jw_A 57 ad) s.heap H locs → lv_has ls 4 [(0, .ref (ad 22)), (1, .long x1), (3, .int x3)] → W p l e rm_cX1_setFolded s m args below meth c H locs 0 0 (c_Qu below dC dI kA ad args s res) (F0 m 0 ls [])
def s_cX1_setFolded (σ : RS) (x1 : Int64) (x3 : Int32) : Option (RS) := kn_v (rs_L σ 1 x1) (fun σ1 => kn_v (rs_I σ1 14 x3) (fun σ2 => some σ2))
set_option maxRecDepth 100000 in
set_option maxHeartbeats 4000000 in
theorem p_cX1_setFolded {p : Program} {l : Launch} {e : Env} {s : State} {m : MethodId} {args : Array Value} {below : List Frame} {meth : Method} {c : Code} {dC : Nat → ClassId} {dI : Nat → Nat → Nat} {kA : Nat → ClassId} {ad : Nat → Nat} (C : jxc cX1_setFolded none 4 RX1 p s m args meth c dC dI kA) (hap : jw_ap 57 ad) {res : RS} : G_cX1_setFolded p l e s m args below meth c dC dI kA ad res (s_cX1_setFolded) := by
  obtain ⟨hx, hb, hml, hown, hts, hr, hlocks, hK, hN⟩ := id C
  intro σ x1 x3 hf H locs ls hP hS hl
  unfold s_cX1_setFolded at hf
  refine lv_aload_n hx hb dX1_setFolded_0 rfl (lv_at hl 0 rfl) ?_
  refine lv_lload_n hx hb dX1_setFolded_1 rfl (lv_at hl 1 rfl) ?_
  refine c_pX1_foldedValue hx hb hts hown hK hap hP hS hf (hts _ kw_279) dX1_setFolded_2 (fun σ1 H locs hP hS hf => ?_)
  refine lv_aload_n hx hb dX1_setFolded_5 rfl (lv_at hl 0 rfl) ?_
  refine lv_iload_n hx hb dX1_setFolded_6 rfl (lv_at hl 2 rfl) ?_
  refine c_pX1_foldedMessages hx hb hts hown hK hap hP hS hf (hts _ kw_277) dX1_setFolded_7 (fun σ2 H locs hP hS hf => ?_)
  exact jr_u hx hb hr hlocks hf hP hS dX1_setFolded_10
theorem c_cX1_setFolded (l : Launch) {dC : Nat → ClassId} {dI : Nat → Nat → Nat} {kA : Nat → ClassId} {ad : Nat → Nat} (hap : jw_ap 57 ad) (σ : RS) (x1 : Int64) (x3 : Int32) (res : RS) (hf : s_cX1_setFolded σ x1 x3 = some res) : jm_u l KW NW (dC, dI) vwCl (jtys kA) (jw_A 57 ad) (c_w kA ad) yX1_setFolded cX1_setFolded 4 (rm_cX1_setFolded) [.ref (ad 22), .long x1, .int x3] σ res := jm_u_of (by decide) (Nat.le_of_ble_eq_true rfl) (fun p e s m below meth c C hP hS ls hl => p_cX1_setFolded C hap σ x1 x3 hf s.heap [] ls hP hS hl)

def rm_cX1_plainValue : Room := { frames := 0, cells := 0, slots := 0, locals := 0 }
def G_cX1_plainValue (p : Program) (l : Launch) (e : Env) (s : State) (m : MethodId) (args : Array Value) (below : List Frame) (meth : Method) (c : Code) (dC : Nat → ClassId) (dI : Nat → Nat → Nat) (kA : Nat → ClassId) (ad : Nat → Nat) (res : Int64 × RS) (F : RS → Int32 → Int32 → Int32 → Option (Int64 × RS)) : Prop := ∀ (σ : RS) (x1 : Int32) (x2 : Int32) (x3 : Int32), F σ x1 x2 x3 = some res → ∀ (H : Heap) (locs : List Loc) (ls : Array Slot), va_P (dC, dI) vwCl (c_w kA ad σ) H → va_S (jw_A 57 ad) s.heap H locs → lv_has ls 4 [(0, .ref (ad 22)), (1, .int x1), (2, .int x2), (3, .int x3)] → W p l e rm_cX1_plainValue s m args below meth c H locs 0 0 (c_Ql below dC dI kA ad args s res) (F0 m 0 ls [])
def s_cX1_plainValue (σ : RS) (x1 : Int32) (x2 : Int32) (x3 : Int32) : Option (Int64 × RS) := kn_ld (rg_A σ 0) 40 x1 (fun v1 => if v1 = 1 then (kn_ld (rg_B σ 0) 40 x1 (fun v3 => kn_ld (rg_B σ 1) 36 ((x2 * 3) + v3.toInt32) (fun v4 => some (v4, σ)))) else (if v1 = 2 then (if x3 = (-1) then (some (0, σ)) else (kn_ld (rg_B σ 2) 40 x3 (fun v6 => some (v6, σ)))) else (if v1 = 3 then (some (rg_L σ 1, σ)) else (if v1 = 4 then (some ((rg_I σ 14).toInt64, σ)) else (if v1 = 5 then (some (((rg_I σ 4) + 1).toInt64, σ)) else (if v1 = 6 then (kn_ld (rg_A σ 5) 12 x2 (fun v11 => some (v11.toInt64, σ))) else (if v1 = 7 then (some (rg_L σ 0, σ)) else (kn_ld (rg_B σ 0) 40 x1 (fun v13 => some (v13, σ))))))))))
set_option maxRecDepth 100000 in
set_option maxHeartbeats 4000000 in
theorem p_cX1_plainValue {p : Program} {l : Launch} {e : Env} {s : State} {m : MethodId} {args : Array Value} {below : List Frame} {meth : Method} {c : Code} {dC : Nat → ClassId} {dI : Nat → Nat → Nat} {kA : Nat → ClassId} {ad : Nat → Nat} (C : jxc cX1_plainValue (some .long) 4 RX1 p s m args meth c dC dI kA) (hap : jw_ap 57 ad) {res : Int64 × RS} : G_cX1_plainValue p l e s m args below meth c dC dI kA ad res (s_cX1_plainValue) := by
  obtain ⟨hx, hb, hml, hown, hts, hr, hlocks, hK, hN⟩ := id C
  intro σ x1 x2 x3 hf H locs ls hP hS hl
  unfold s_cX1_plainValue at hf
  refine lv_aload_n hx hb dX1_plainValue_0 rfl (lv_at hl 0 rfl) ?_
  refine c_gX1_terms hx hb hts hown hK hP (hts _ kw_275) dX1_plainValue_1 ?_
  refine c_gX8_kinds hx hb hts hown hK hP (hts _ kw_82) dX1_plainValue_4 ?_
  refine lv_iload_n hx hb dX1_plainValue_7 rfl (lv_at hl 1 rfl) ?_
  refine ja_ild hx hb hK hP 2 0 rfl rfl hf dX1_plainValue_8 (fun v1 hf => ?_)
  by_cases c2 : v1 = 1
  · have hf := kn_t hf c2
    refine lv_tableIn (tgt := 52) hx hb dX1_plainValue_9 (by rw [c2]; decide) (by rw [c2]; decide) (by rw [c2]; rfl) (by decide) ?_
    refine lv_aload_n hx hb dX1_plainValue_52 rfl (lv_at hl 0 rfl) ?_
    refine c_gX1_web hx hb hts hown hK hP (hts _ kw_276) dX1_plainValue_53 ?_
    refine c_gX10_states hx hb hts hown hK hP (hts _ kw_117) dX1_plainValue_56 ?_
    refine lv_iload_n hx hb dX1_plainValue_59 rfl (lv_at hl 2 rfl) ?_
    refine lv_iconst (v := 3) hx hb dX1_plainValue_60 (by decide) ?_
    refine lv_imul hx hb dX1_plainValue_61 ?_
    refine lv_aload_n hx hb dX1_plainValue_62 rfl (lv_at hl 0 rfl) ?_
    refine c_gX1_terms hx hb hts hown hK hP (hts _ kw_275) dX1_plainValue_63 ?_
    refine c_gX8_numbers hx hb hts hown hK hP (hts _ kw_90) dX1_plainValue_66 ?_
    refine lv_iload_n hx hb dX1_plainValue_69 rfl (lv_at hl 1 rfl) ?_
    refine ja_lld hx hb hK hP 6 1 rfl rfl hf dX1_plainValue_70 (fun v3 hf => ?_)
    refine lv_l2i (v := v3.toInt32) hx hb dX1_plainValue_71 rfl ?_
    refine lv_iadd hx hb dX1_plainValue_72 ?_
    refine ja_lld hx hb hK hP 8 1 rfl rfl hf dX1_plainValue_73 (fun v4 hf => ?_)
    exact jr_l hx hb hr hlocks hf hP hS dX1_plainValue_74
  · have hf := kn_f hf c2
    by_cases c5 : v1 = 2
    · have hf := kn_t hf c5
      refine lv_tableIn (tgt := 75) hx hb dX1_plainValue_9 (by rw [c5]; decide) (by rw [c5]; decide) (by rw [c5]; rfl) (by decide) ?_
      refine lv_iload_n hx hb dX1_plainValue_75 rfl (lv_at hl 3 rfl) ?_
      refine lv_iconst (v := (-1)) hx hb dX1_plainValue_76 (by decide) ?_
      refine jc_ne (tgt := 84) hx hb hf dX1_plainValue_77 (by decide) (fun hf => ?_) (fun hf => ?_)
      · refine lv_aload_n hx hb dX1_plainValue_84 rfl (lv_at hl 0 rfl) ?_
        refine c_gX1_web hx hb hts hown hK hP (hts _ kw_276) dX1_plainValue_85 ?_
        refine c_gX10_weights hx hb hts hown hK hP (hts _ kw_134) dX1_plainValue_88 ?_
        refine lv_iload_n hx hb dX1_plainValue_91 rfl (lv_at hl 3 rfl) ?_
        refine ja_lld hx hb hK hP 13 1 rfl rfl hf dX1_plainValue_92 (fun v6 hf => ?_)
        exact jr_l hx hb hr hlocks hf hP hS dX1_plainValue_93
      · refine lv_lconst (v := 0) hx hb dX1_plainValue_80 (by decide) ?_
        refine lv_goto (tgt := 93) hx hb dX1_plainValue_81 (by decide) ?_
        exact jr_l hx hb hr hlocks hf hP hS dX1_plainValue_93
    · have hf := kn_f hf c5
      by_cases c7 : v1 = 3
      · have hf := kn_t hf c7
        refine lv_tableIn (tgt := 94) hx hb dX1_plainValue_9 (by rw [c7]; decide) (by rw [c7]; decide) (by rw [c7]; rfl) (by decide) ?_
        refine lv_aload_n hx hb dX1_plainValue_94 rfl (lv_at hl 0 rfl) ?_
        refine c_gX1_foldedValue hx hb hts hown hK hP (hts _ kw_279) dX1_plainValue_95 ?_
        exact jr_l hx hb hr hlocks hf hP hS dX1_plainValue_98
      · have hf := kn_f hf c7
        by_cases c8 : v1 = 4
        · have hf := kn_t hf c8
          refine lv_tableIn (tgt := 99) hx hb dX1_plainValue_9 (by rw [c8]; decide) (by rw [c8]; decide) (by rw [c8]; rfl) (by decide) ?_
          refine lv_aload_n hx hb dX1_plainValue_99 rfl (lv_at hl 0 rfl) ?_
          refine c_gX1_foldedMessages hx hb hts hown hK hP (hts _ kw_277) dX1_plainValue_100 ?_
          refine lv_i2l (v := (rg_I σ 14).toInt64) hx hb dX1_plainValue_103 rfl ?_
          exact jr_l hx hb hr hlocks hf hP hS dX1_plainValue_104
        · have hf := kn_f hf c8
          by_cases c9 : v1 = 5
          · have hf := kn_t hf c9
            refine lv_tableIn (tgt := 105) hx hb dX1_plainValue_9 (by rw [c9]; decide) (by rw [c9]; decide) (by rw [c9]; rfl) (by decide) ?_
            refine lv_aload_n hx hb dX1_plainValue_105 rfl (lv_at hl 0 rfl) ?_
            refine c_gX1_web hx hb hts hown hK hP (hts _ kw_276) dX1_plainValue_106 ?_
            refine c_gX10_rounds hx hb hts hown hK hP (hts _ kw_147) dX1_plainValue_109 ?_
            refine lv_iconst (v := 1) hx hb dX1_plainValue_112 (by decide) ?_
            refine lv_iadd hx hb dX1_plainValue_113 ?_
            refine lv_i2l (v := ((rg_I σ 4) + 1).toInt64) hx hb dX1_plainValue_114 rfl ?_
            exact jr_l hx hb hr hlocks hf hP hS dX1_plainValue_115
          · have hf := kn_f hf c9
            by_cases c10 : v1 = 6
            · have hf := kn_t hf c10
              refine lv_tableIn (tgt := 116) hx hb dX1_plainValue_9 (by rw [c10]; decide) (by rw [c10]; decide) (by rw [c10]; rfl) (by decide) ?_
              refine lv_aload_n hx hb dX1_plainValue_116 rfl (lv_at hl 0 rfl) ?_
              refine c_gX1_web hx hb hts hown hK hP (hts _ kw_276) dX1_plainValue_117 ?_
              refine c_gX10_degrees hx hb hts hown hK hP (hts _ kw_126) dX1_plainValue_120 ?_
              refine lv_iload_n hx hb dX1_plainValue_123 rfl (lv_at hl 2 rfl) ?_
              refine ja_ild hx hb hK hP 10 0 rfl rfl hf dX1_plainValue_124 (fun v11 hf => ?_)
              refine lv_i2l (v := v11.toInt64) hx hb dX1_plainValue_125 rfl ?_
              exact jr_l hx hb hr hlocks hf hP hS dX1_plainValue_126
            · have hf := kn_f hf c10
              by_cases c12 : v1 = 7
              · have hf := kn_t hf c12
                refine lv_tableIn (tgt := 127) hx hb dX1_plainValue_9 (by rw [c12]; decide) (by rw [c12]; decide) (by rw [c12]; rfl) (by decide) ?_
                refine lv_aload_n hx hb dX1_plainValue_127 rfl (lv_at hl 0 rfl) ?_
                refine c_gX1_web hx hb hts hown hK hP (hts _ kw_276) dX1_plainValue_128 ?_
                refine c_gX10_sum hx hb hts hown hK hP (hts _ kw_150) dX1_plainValue_131 ?_
                exact jr_l hx hb hr hlocks hf hP hS dX1_plainValue_134
              · have hf := kn_f hf c12
                refine lv_tableOut (tgt := 135) hx hb dX1_plainValue_9 (by have t0 := lv_neT c2 (a := 1) (by decide); have t1 := lv_neT c5 (a := 2) (by decide); have t2 := lv_neT c7 (a := 3) (by decide); have t3 := lv_neT c8 (a := 4) (by decide); have t4 := lv_neT c9 (a := 5) (by decide); have t5 := lv_neT c10 (a := 6) (by decide); have t6 := lv_neT c12 (a := 7) (by decide); omega) (by decide) ?_
                refine lv_aload_n hx hb dX1_plainValue_135 rfl (lv_at hl 0 rfl) ?_
                refine c_gX1_terms hx hb hts hown hK hP (hts _ kw_275) dX1_plainValue_136 ?_
                refine c_gX8_numbers hx hb hts hown hK hP (hts _ kw_90) dX1_plainValue_139 ?_
                refine lv_iload_n hx hb dX1_plainValue_142 rfl (lv_at hl 1 rfl) ?_
                refine ja_lld hx hb hK hP 6 1 rfl rfl hf dX1_plainValue_143 (fun v13 hf => ?_)
                exact jr_l hx hb hr hlocks hf hP hS dX1_plainValue_144
theorem c_cX1_plainValue (l : Launch) {dC : Nat → ClassId} {dI : Nat → Nat → Nat} {kA : Nat → ClassId} {ad : Nat → Nat} (hap : jw_ap 57 ad) (σ : RS) (x1 : Int32) (x2 : Int32) (x3 : Int32) (res : Int64 × RS) (hf : s_cX1_plainValue σ x1 x2 x3 = some res) : jm_l l KW NW (dC, dI) vwCl (jtys kA) (jw_A 57 ad) (c_w kA ad) yX1_plainValue cX1_plainValue 4 (rm_cX1_plainValue) [.ref (ad 22), .int x1, .int x2, .int x3] σ res := jm_l_of (by decide) (Nat.le_of_ble_eq_true rfl) (fun p e s m below meth c C hP hS ls hl => p_cX1_plainValue C hap σ x1 x2 x3 hf s.heap [] ls hP hS hl)

def rm_cX1_stateAt : Room := { frames := 0, cells := 0, slots := 0, locals := 0 }
def G_cX1_stateAt_b23 (p : Program) (l : Launch) (e : Env) (s : State) (m : MethodId) (args : Array Value) (below : List Frame) (meth : Method) (c : Code) (dC : Nat → ClassId) (dI : Nat → Nat → Nat) (kA : Nat → ClassId) (ad : Nat → Nat) (res : Int64 × RS) (F : RS → Option (Int64 × RS)) : Prop := ∀ (σ : RS), F σ = some res → ∀ (H : Heap) (locs : List Loc) (ls : Array Slot), va_P (dC, dI) vwCl (c_w kA ad σ) H → va_S (jw_A 57 ad) s.heap H locs → lv_has ls 3 [(0, .ref (ad 22))] → W p l e rm_cX1_stateAt s m args below meth c H locs 0 0 (c_Ql below dC dI kA ad args s res) (F0 m 23 ls [])
def G_cX1_stateAt (p : Program) (l : Launch) (e : Env) (s : State) (m : MethodId) (args : Array Value) (below : List Frame) (meth : Method) (c : Code) (dC : Nat → ClassId) (dI : Nat → Nat → Nat) (kA : Nat → ClassId) (ad : Nat → Nat) (res : Int64 × RS) (F : RS → Int32 → Int32 → Option (Int64 × RS)) : Prop := ∀ (σ : RS) (x1 : Int32) (x2 : Int32), F σ x1 x2 = some res → ∀ (H : Heap) (locs : List Loc) (ls : Array Slot), va_P (dC, dI) vwCl (c_w kA ad σ) H → va_S (jw_A 57 ad) s.heap H locs → lv_has ls 3 [(0, .ref (ad 22)), (1, .int x1), (2, .int x2)] → W p l e rm_cX1_stateAt s m args below meth c H locs 0 0 (c_Ql below dC dI kA ad args s res) (F0 m 0 ls [])
def s_cX1_stateAt_b23 (σ : RS) : Option (Int64 × RS) := kn_v (rs_I σ 16 2) (fun σ1 => some (0, σ1))
set_option maxRecDepth 100000 in
set_option maxHeartbeats 4000000 in
theorem p_cX1_stateAt_b23 {p : Program} {l : Launch} {e : Env} {s : State} {m : MethodId} {args : Array Value} {below : List Frame} {meth : Method} {c : Code} {dC : Nat → ClassId} {dI : Nat → Nat → Nat} {kA : Nat → ClassId} {ad : Nat → Nat} (C : jxc cX1_stateAt (some .long) 3 RX1 p s m args meth c dC dI kA) (hap : jw_ap 57 ad) {res : Int64 × RS} : G_cX1_stateAt_b23 p l e s m args below meth c dC dI kA ad res (s_cX1_stateAt_b23) := by
  obtain ⟨hx, hb, hml, hown, hts, hr, hlocks, hK, hN⟩ := id C
  intro σ hf H locs ls hP hS hl
  unfold s_cX1_stateAt_b23 at hf
  refine lv_aload_n hx hb dX1_stateAt_23 rfl (lv_at hl 0 rfl) ?_
  refine lv_iconst (v := 2) hx hb dX1_stateAt_24 (by decide) ?_
  refine c_pX1_fault hx hb hts hown hK hap hP hS hf (hts _ kw_280) dX1_stateAt_25 (fun σ1 H locs hP hS hf => ?_)
  refine lv_lconst (v := 0) hx hb dX1_stateAt_28 (by decide) ?_
  exact jr_l hx hb hr hlocks hf hP hS dX1_stateAt_29
def s_cX1_stateAt (σ : RS) (x1 : Int32) (x2 : Int32) : Option (Int64 × RS) := if x2 < 0 then (s_cX1_stateAt_b23 σ) else (if 3 ≤ x2 then (s_cX1_stateAt_b23 σ) else (kn_ld (rg_B σ 1) 36 ((x1 * 3) + x2) (fun v1 => some (v1, σ))))
set_option maxRecDepth 100000 in
set_option maxHeartbeats 4000000 in
theorem p_cX1_stateAt {p : Program} {l : Launch} {e : Env} {s : State} {m : MethodId} {args : Array Value} {below : List Frame} {meth : Method} {c : Code} {dC : Nat → ClassId} {dI : Nat → Nat → Nat} {kA : Nat → ClassId} {ad : Nat → Nat} (C : jxc cX1_stateAt (some .long) 3 RX1 p s m args meth c dC dI kA) (hap : jw_ap 57 ad) {res : Int64 × RS} : G_cX1_stateAt p l e s m args below meth c dC dI kA ad res (s_cX1_stateAt) := by
  obtain ⟨hx, hb, hml, hown, hts, hr, hlocks, hK, hN⟩ := id C
  intro σ x1 x2 hf H locs ls hP hS hl
  unfold s_cX1_stateAt at hf
  refine lv_iload_n hx hb dX1_stateAt_0 rfl (lv_at hl 2 rfl) ?_
  refine jb_lt (tgt := 23) hx hb hf dX1_stateAt_1 (by decide) (fun hf => ?_) (fun hf => ?_)
  · exact (p_cX1_stateAt_b23 C hap) σ hf H locs ls hP hS (lv_sub hl [0] rfl)
  · refine lv_iload_n hx hb dX1_stateAt_4 rfl (lv_at hl 2 rfl) ?_
    refine lv_iconst (v := 3) hx hb dX1_stateAt_5 (by decide) ?_
    refine jc_ge (tgt := 23) hx hb hf dX1_stateAt_6 (by decide) (fun hf => ?_) (fun hf => ?_)
    · exact (p_cX1_stateAt_b23 C hap) σ hf H locs ls hP hS (lv_sub hl [0] rfl)
    · refine lv_aload_n hx hb dX1_stateAt_9 rfl (lv_at hl 0 rfl) ?_
      refine c_gX1_web hx hb hts hown hK hP (hts _ kw_276) dX1_stateAt_10 ?_
      refine c_gX10_states hx hb hts hown hK hP (hts _ kw_117) dX1_stateAt_13 ?_
      refine lv_iload_n hx hb dX1_stateAt_16 rfl (lv_at hl 1 rfl) ?_
      refine lv_iconst (v := 3) hx hb dX1_stateAt_17 (by decide) ?_
      refine lv_imul hx hb dX1_stateAt_18 ?_
      refine lv_iload_n hx hb dX1_stateAt_19 rfl (lv_at hl 2 rfl) ?_
      refine lv_iadd hx hb dX1_stateAt_20 ?_
      refine ja_lld hx hb hK hP 8 1 rfl rfl hf dX1_stateAt_21 (fun v1 hf => ?_)
      exact jr_l hx hb hr hlocks hf hP hS dX1_stateAt_22
theorem c_cX1_stateAt (l : Launch) {dC : Nat → ClassId} {dI : Nat → Nat → Nat} {kA : Nat → ClassId} {ad : Nat → Nat} (hap : jw_ap 57 ad) (σ : RS) (x1 : Int32) (x2 : Int32) (res : Int64 × RS) (hf : s_cX1_stateAt σ x1 x2 = some res) : jm_l l KW NW (dC, dI) vwCl (jtys kA) (jw_A 57 ad) (c_w kA ad) yX1_stateAt cX1_stateAt 3 (rm_cX1_stateAt) [.ref (ad 22), .int x1, .int x2] σ res := jm_l_of (by decide) (Nat.le_of_ble_eq_true rfl) (fun p e s m below meth c C hP hS ls hl => p_cX1_stateAt C hap σ x1 x2 hf s.heap [] ls hP hS hl)

def rm_cX1_joined : Room := { frames := 0, cells := 0, slots := 0, locals := 0 }
def G_cX1_joined_b104 (p : Program) (l : Launch) (e : Env) (s : State) (m : MethodId) (args : Array Value) (below : List Frame) (meth : Method) (c : Code) (dC : Nat → ClassId) (dI : Nat → Nat → Nat) (kA : Nat → ClassId) (ad : Nat → Nat) (res : Int64 × RS) (F : RS → Int32 → Int64 → Int64 → Option (Int64 × RS)) : Prop := ∀ (σ : RS) (x1 : Int32) (x2 : Int64) (x4 : Int64), F σ x1 x2 x4 = some res → ∀ (H : Heap) (locs : List Loc) (ls : Array Slot), va_P (dC, dI) vwCl (c_w kA ad σ) H → va_S (jw_A 57 ad) s.heap H locs → lv_has ls 6 [(0, .ref (ad 22)), (1, .int x1), (2, .long x2), (4, .long x4)] → W p l e rm_cX1_joined s m args below meth c H locs 0 0 (c_Ql below dC dI kA ad args s res) (F0 m 104 ls [])
def G_cX1_joined (p : Program) (l : Launch) (e : Env) (s : State) (m : MethodId) (args : Array Value) (below : List Frame) (meth : Method) (c : Code) (dC : Nat → ClassId) (dI : Nat → Nat → Nat) (kA : Nat → ClassId) (ad : Nat → Nat) (res : Int64 × RS) (F : RS → Int32 → Int64 → Int64 → Option (Int64 × RS)) : Prop := ∀ (σ : RS) (x1 : Int32) (x2 : Int64) (x4 : Int64), F σ x1 x2 x4 = some res → ∀ (H : Heap) (locs : List Loc) (ls : Array Slot), va_P (dC, dI) vwCl (c_w kA ad σ) H → va_S (jw_A 57 ad) s.heap H locs → lv_has ls 6 [(0, .ref (ad 22)), (1, .int x1), (2, .long x2), (4, .long x4)] → W p l e rm_cX1_joined s m args below meth c H locs 0 0 (c_Ql below dC dI kA ad args s res) (F0 m 0 ls [])
def s_cX1_joined_b104 (σ : RS) (x1 : Int32) (x2 : Int64) (x4 : Int64) : Option (Int64 × RS) := if x4 = 0 then (kn_v (rs_I σ 16 1) (fun σ1 => some (0, σ1))) else (if x1 = 11 then (kn_nz64 x4 (some (x2 / x4, σ))) else (kn_nz64 x4 (some (x2 - x2 / x4 * x4, σ))))
set_option maxRecDepth 100000 in
set_option maxHeartbeats 4000000 in
theorem p_cX1_joined_b104 {p : Program} {l : Launch} {e : Env} {s : State} {m : MethodId} {args : Array Value} {below : List Frame} {meth : Method} {c : Code} {dC : Nat → ClassId} {dI : Nat → Nat → Nat} {kA : Nat → ClassId} {ad : Nat → Nat} (C : jxc cX1_joined (some .long) 6 RX1 p s m args meth c dC dI kA) (hap : jw_ap 57 ad) {res : Int64 × RS} : G_cX1_joined_b104 p l e s m args below meth c dC dI kA ad res (s_cX1_joined_b104) := by
  obtain ⟨hx, hb, hml, hown, hts, hr, hlocks, hK, hN⟩ := id C
  intro σ x1 x2 x4 hf H locs ls hP hS hl
  unfold s_cX1_joined_b104 at hf
  refine lv_lload hx hb dX1_joined_104 (lv_at hl 3 rfl) ?_
  refine lv_lconst (v := 0) hx hb dX1_joined_106 (by decide) ?_
  refine jl_eq (tgt := 129) hx hb hf dX1_joined_107 dX1_joined_108 (by decide) (fun hf => ?_) (fun hf => ?_)
  · refine lv_aload_n hx hb dX1_joined_129 rfl (lv_at hl 0 rfl) ?_
    refine lv_iconst (v := 1) hx hb dX1_joined_130 (by decide) ?_
    refine c_pX1_fault hx hb hts hown hK hap hP hS hf (hts _ kw_280) dX1_joined_131 (fun σ1 H locs hP hS hf => ?_)
    refine lv_lconst (v := 0) hx hb dX1_joined_134 (by decide) ?_
    exact jr_l hx hb hr hlocks hf hP hS dX1_joined_135
  · refine lv_iload_n hx hb dX1_joined_111 rfl (lv_at hl 1 rfl) ?_
    refine lv_bipush (v := 11) hx hb dX1_joined_112 (by decide) ?_
    refine jc_ne (tgt := 124) hx hb hf dX1_joined_114 (by decide) (fun hf => ?_) (fun hf => ?_)
    · refine lv_lload_n hx hb dX1_joined_124 rfl (lv_at hl 2 rfl) ?_
      refine lv_lload hx hb dX1_joined_125 (lv_at hl 3 rfl) ?_
      refine jd_lrem hx hb hf dX1_joined_127 (fun hf => ?_)
      exact jr_l hx hb hr hlocks hf hP hS dX1_joined_128
    · refine lv_lload_n hx hb dX1_joined_117 rfl (lv_at hl 2 rfl) ?_
      refine lv_lload hx hb dX1_joined_118 (lv_at hl 3 rfl) ?_
      refine jd_ldiv hx hb hf dX1_joined_120 (fun hf => ?_)
      refine lv_goto (tgt := 128) hx hb dX1_joined_121 (by decide) ?_
      exact jr_l hx hb hr hlocks hf hP hS dX1_joined_128
def s_cX1_joined (σ : RS) (x1 : Int32) (x2 : Int64) (x4 : Int64) : Option (Int64 × RS) := if x1 = 8 then (some (x2 + x4, σ)) else (if x1 = 9 then (some (x2 - x4, σ)) else (if x1 = 10 then (some (x2 * x4, σ)) else (if x1 = 11 then (s_cX1_joined_b104 σ x1 x2 x4) else (if x1 = 12 then (s_cX1_joined_b104 σ x1 x2 x4) else (if x1 = 13 then (if x4 ≤ x2 then (some (x4, σ)) else (some (x2, σ))) else (if x1 = 14 then (if x2 ≤ x4 then (some (x4, σ)) else (some (x2, σ))) else (if x1 = 15 then (if x4 ≤ x2 then (some (0, σ)) else (some (1, σ))) else (s_cX1_joined_b104 σ x1 x2 x4))))))))
set_option maxRecDepth 100000 in
set_option maxHeartbeats 4000000 in
theorem p_cX1_joined {p : Program} {l : Launch} {e : Env} {s : State} {m : MethodId} {args : Array Value} {below : List Frame} {meth : Method} {c : Code} {dC : Nat → ClassId} {dI : Nat → Nat → Nat} {kA : Nat → ClassId} {ad : Nat → Nat} (C : jxc cX1_joined (some .long) 6 RX1 p s m args meth c dC dI kA) (hap : jw_ap 57 ad) {res : Int64 × RS} : G_cX1_joined p l e s m args below meth c dC dI kA ad res (s_cX1_joined) := by
  obtain ⟨hx, hb, hml, hown, hts, hr, hlocks, hK, hN⟩ := id C
  intro σ x1 x2 x4 hf H locs ls hP hS hl
  unfold s_cX1_joined at hf
  refine lv_iload_n hx hb dX1_joined_0 rfl (lv_at hl 1 rfl) ?_
  by_cases c1 : x1 = 8
  · have hf := kn_t hf c1
    refine lv_tableIn (tgt := 48) hx hb dX1_joined_1 (by rw [c1]; decide) (by rw [c1]; decide) (by rw [c1]; rfl) (by decide) ?_
    refine lv_lload_n hx hb dX1_joined_48 rfl (lv_at hl 2 rfl) ?_
    refine lv_lload hx hb dX1_joined_49 (lv_at hl 3 rfl) ?_
    refine lv_ladd hx hb dX1_joined_51 ?_
    exact jr_l hx hb hr hlocks hf hP hS dX1_joined_52
  · have hf := kn_f hf c1
    by_cases c2 : x1 = 9
    · have hf := kn_t hf c2
      refine lv_tableIn (tgt := 53) hx hb dX1_joined_1 (by rw [c2]; decide) (by rw [c2]; decide) (by rw [c2]; rfl) (by decide) ?_
      refine lv_lload_n hx hb dX1_joined_53 rfl (lv_at hl 2 rfl) ?_
      refine lv_lload hx hb dX1_joined_54 (lv_at hl 3 rfl) ?_
      refine lv_lsub hx hb dX1_joined_56 ?_
      exact jr_l hx hb hr hlocks hf hP hS dX1_joined_57
    · have hf := kn_f hf c2
      by_cases c3 : x1 = 10
      · have hf := kn_t hf c3
        refine lv_tableIn (tgt := 58) hx hb dX1_joined_1 (by rw [c3]; decide) (by rw [c3]; decide) (by rw [c3]; rfl) (by decide) ?_
        refine lv_lload_n hx hb dX1_joined_58 rfl (lv_at hl 2 rfl) ?_
        refine lv_lload hx hb dX1_joined_59 (lv_at hl 3 rfl) ?_
        refine lv_lmul hx hb dX1_joined_61 ?_
        exact jr_l hx hb hr hlocks hf hP hS dX1_joined_62
      · have hf := kn_f hf c3
        by_cases c4 : x1 = 11
        · have hf := kn_t hf c4
          refine lv_tableIn (tgt := 104) hx hb dX1_joined_1 (by rw [c4]; decide) (by rw [c4]; decide) (by rw [c4]; rfl) (by decide) ?_
          exact (p_cX1_joined_b104 C hap) σ x1 x2 x4 hf H locs ls hP hS (lv_sub hl [0, 1, 2, 3] rfl)
        · have hf := kn_f hf c4
          by_cases c5 : x1 = 12
          · have hf := kn_t hf c5
            refine lv_tableIn (tgt := 104) hx hb dX1_joined_1 (by rw [c5]; decide) (by rw [c5]; decide) (by rw [c5]; rfl) (by decide) ?_
            exact (p_cX1_joined_b104 C hap) σ x1 x2 x4 hf H locs ls hP hS (lv_sub hl [0, 1, 2, 3] rfl)
          · have hf := kn_f hf c5
            by_cases c6 : x1 = 13
            · have hf := kn_t hf c6
              refine lv_tableIn (tgt := 63) hx hb dX1_joined_1 (by rw [c6]; decide) (by rw [c6]; decide) (by rw [c6]; rfl) (by decide) ?_
              refine lv_lload_n hx hb dX1_joined_63 rfl (lv_at hl 2 rfl) ?_
              refine lv_lload hx hb dX1_joined_64 (lv_at hl 3 rfl) ?_
              refine jl_ge (tgt := 74) hx hb hf dX1_joined_66 dX1_joined_67 (by decide) (fun hf => ?_) (fun hf => ?_)
              · refine lv_lload hx hb dX1_joined_74 (lv_at hl 3 rfl) ?_
                exact jr_l hx hb hr hlocks hf hP hS dX1_joined_76
              · refine lv_lload_n hx hb dX1_joined_70 rfl (lv_at hl 2 rfl) ?_
                refine lv_goto (tgt := 76) hx hb dX1_joined_71 (by decide) ?_
                exact jr_l hx hb hr hlocks hf hP hS dX1_joined_76
            · have hf := kn_f hf c6
              by_cases c7 : x1 = 14
              · have hf := kn_t hf c7
                refine lv_tableIn (tgt := 77) hx hb dX1_joined_1 (by rw [c7]; decide) (by rw [c7]; decide) (by rw [c7]; rfl) (by decide) ?_
                refine lv_lload_n hx hb dX1_joined_77 rfl (lv_at hl 2 rfl) ?_
                refine lv_lload hx hb dX1_joined_78 (lv_at hl 3 rfl) ?_
                refine jl_le (tgt := 88) hx hb hf dX1_joined_80 dX1_joined_81 (by decide) (fun hf => ?_) (fun hf => ?_)
                · refine lv_lload hx hb dX1_joined_88 (lv_at hl 3 rfl) ?_
                  exact jr_l hx hb hr hlocks hf hP hS dX1_joined_90
                · refine lv_lload_n hx hb dX1_joined_84 rfl (lv_at hl 2 rfl) ?_
                  refine lv_goto (tgt := 90) hx hb dX1_joined_85 (by decide) ?_
                  exact jr_l hx hb hr hlocks hf hP hS dX1_joined_90
              · have hf := kn_f hf c7
                by_cases c8 : x1 = 15
                · have hf := kn_t hf c8
                  refine lv_tableIn (tgt := 91) hx hb dX1_joined_1 (by rw [c8]; decide) (by rw [c8]; decide) (by rw [c8]; rfl) (by decide) ?_
                  refine lv_lload_n hx hb dX1_joined_91 rfl (lv_at hl 2 rfl) ?_
                  refine lv_lload hx hb dX1_joined_92 (lv_at hl 3 rfl) ?_
                  refine jl_ge (tgt := 102) hx hb hf dX1_joined_94 dX1_joined_95 (by decide) (fun hf => ?_) (fun hf => ?_)
                  · refine lv_lconst (v := 0) hx hb dX1_joined_102 (by decide) ?_
                    exact jr_l hx hb hr hlocks hf hP hS dX1_joined_103
                  · refine lv_lconst (v := 1) hx hb dX1_joined_98 (by decide) ?_
                    refine lv_goto (tgt := 103) hx hb dX1_joined_99 (by decide) ?_
                    exact jr_l hx hb hr hlocks hf hP hS dX1_joined_103
                · have hf := kn_f hf c8
                  refine lv_tableOut (tgt := 104) hx hb dX1_joined_1 (by have t0 := lv_neT c1 (a := 8) (by decide); have t1 := lv_neT c2 (a := 9) (by decide); have t2 := lv_neT c3 (a := 10) (by decide); have t3 := lv_neT c4 (a := 11) (by decide); have t4 := lv_neT c5 (a := 12) (by decide); have t5 := lv_neT c6 (a := 13) (by decide); have t6 := lv_neT c7 (a := 14) (by decide); have t7 := lv_neT c8 (a := 15) (by decide); omega) (by decide) ?_
                  exact (p_cX1_joined_b104 C hap) σ x1 x2 x4 hf H locs ls hP hS (lv_sub hl [0, 1, 2, 3] rfl)
theorem c_cX1_joined (l : Launch) {dC : Nat → ClassId} {dI : Nat → Nat → Nat} {kA : Nat → ClassId} {ad : Nat → Nat} (hap : jw_ap 57 ad) (σ : RS) (x1 : Int32) (x2 : Int64) (x4 : Int64) (res : Int64 × RS) (hf : s_cX1_joined σ x1 x2 x4 = some res) : jm_l l KW NW (dC, dI) vwCl (jtys kA) (jw_A 57 ad) (c_w kA ad) yX1_joined cX1_joined 6 (rm_cX1_joined) [.ref (ad 22), .int x1, .long x2, .long x4] σ res := jm_l_of (by decide) (Nat.le_of_ble_eq_true rfl) (fun p e s m below meth c C hP hS ls hl => p_cX1_joined C hap σ x1 x2 x4 hf s.heap [] ls hP hS hl)

def rm_cX1_fails : Room := { frames := 0, cells := 0, slots := 0, locals := 0 }
def G_cX1_fails (p : Program) (l : Launch) (e : Env) (s : State) (m : MethodId) (args : Array Value) (below : List Frame) (meth : Method) (c : Code) (dC : Nat → ClassId) (dI : Nat → Nat → Nat) (kA : Nat → ClassId) (ad : Nat → Nat) (res : Int64 × RS) (F : RS → Int32 → Option (Int64 × RS)) : Prop := ∀ (σ : RS) (x1 : Int32), F σ x1 = some res → ∀ (H : Heap) (locs : List Loc) (ls : Array Slot), va_P (dC, dI) vwCl (c_w kA ad σ) H → va_S (jw_A 57 ad) s.heap H locs → lv_has ls 2 [(0, .ref (ad 22)), (1, .int x1)] → W p l e rm_cX1_fails s m args below meth c H locs 0 0 (c_Ql below dC dI kA ad args s res) (F0 m 0 ls [])
def s_cX1_fails (σ : RS) (x1 : Int32) : Option (Int64 × RS) := kn_v (rs_I σ 16 x1) (fun σ1 => some (0, σ1))
set_option maxRecDepth 100000 in
set_option maxHeartbeats 4000000 in
theorem p_cX1_fails {p : Program} {l : Launch} {e : Env} {s : State} {m : MethodId} {args : Array Value} {below : List Frame} {meth : Method} {c : Code} {dC : Nat → ClassId} {dI : Nat → Nat → Nat} {kA : Nat → ClassId} {ad : Nat → Nat} (C : jxc cX1_fails (some .long) 2 RX1 p s m args meth c dC dI kA) (hap : jw_ap 57 ad) {res : Int64 × RS} : G_cX1_fails p l e s m args below meth c dC dI kA ad res (s_cX1_fails) := by
  obtain ⟨hx, hb, hml, hown, hts, hr, hlocks, hK, hN⟩ := id C
  intro σ x1 hf H locs ls hP hS hl
  unfold s_cX1_fails at hf
  refine lv_aload_n hx hb dX1_fails_0 rfl (lv_at hl 0 rfl) ?_
  refine lv_iload_n hx hb dX1_fails_1 rfl (lv_at hl 1 rfl) ?_
  refine c_pX1_fault hx hb hts hown hK hap hP hS hf (hts _ kw_280) dX1_fails_2 (fun σ1 H locs hP hS hf => ?_)
  refine lv_lconst (v := 0) hx hb dX1_fails_5 (by decide) ?_
  exact jr_l hx hb hr hlocks hf hP hS dX1_fails_6
theorem c_cX1_fails (l : Launch) {dC : Nat → ClassId} {dI : Nat → Nat → Nat} {kA : Nat → ClassId} {ad : Nat → Nat} (hap : jw_ap 57 ad) (σ : RS) (x1 : Int32) (res : Int64 × RS) (hf : s_cX1_fails σ x1 = some res) : jm_l l KW NW (dC, dI) vwCl (jtys kA) (jw_A 57 ad) (c_w kA ad) yX1_fails cX1_fails 2 (rm_cX1_fails) [.ref (ad 22), .int x1] σ res := jm_l_of (by decide) (Nat.le_of_ble_eq_true rfl) (fun p e s m below meth c C hP hS ls hl => p_cX1_fails C hap σ x1 hf s.heap [] ls hP hS hl)

def rm_cX2_clear : Room := { frames := 0, cells := 0, slots := 0, locals := 0 }
def G_cX2_clear (p : Program) (l : Launch) (e : Env) (s : State) (m : MethodId) (args : Array Value) (below : List Frame) (meth : Method) (c : Code) (dC : Nat → ClassId) (dI : Nat → Nat → Nat) (kA : Nat → ClassId) (ad : Nat → Nat) (res : RS) (F : RS → Option (RS)) : Prop := ∀ (σ : RS), F σ = some res → ∀ (H : Heap) (locs : List Loc) (ls : Array Slot), va_P (dC, dI) vwCl (c_w kA ad σ) H → va_S (jw_A 57 ad) s.heap H locs → lv_has ls 1 [(0, .ref (ad 16))] → W p l e rm_cX2_clear s m args below meth c H locs 0 0 (c_Qu below dC dI kA ad args s res) (F0 m 0 ls [])
def s_cX2_clear (σ : RS) : Option (RS) := kn_v (rs_I σ 6 0) (fun σ1 => some σ1)
set_option maxRecDepth 100000 in
set_option maxHeartbeats 4000000 in
theorem p_cX2_clear {p : Program} {l : Launch} {e : Env} {s : State} {m : MethodId} {args : Array Value} {below : List Frame} {meth : Method} {c : Code} {dC : Nat → ClassId} {dI : Nat → Nat → Nat} {kA : Nat → ClassId} {ad : Nat → Nat} (C : jxc cX2_clear none 1 RX2 p s m args meth c dC dI kA) (hap : jw_ap 57 ad) {res : RS} : G_cX2_clear p l e s m args below meth c dC dI kA ad res (s_cX2_clear) := by
  obtain ⟨hx, hb, hml, hown, hts, hr, hlocks, hK, hN⟩ := id C
  intro σ hf H locs ls hP hS hl
  unfold s_cX2_clear at hf
  refine lv_aload_n hx hb dX2_clear_0 rfl (lv_at hl 0 rfl) ?_
  refine lv_iconst (v := 0) hx hb dX2_clear_1 (by decide) ?_
  refine c_pX2_sort hx hb hts hown hK hap hP hS hf (hts _ kw_197) dX2_clear_2 (fun σ1 H locs hP hS hf => ?_)
  exact jr_u hx hb hr hlocks hf hP hS dX2_clear_5
theorem c_cX2_clear (l : Launch) {dC : Nat → ClassId} {dI : Nat → Nat → Nat} {kA : Nat → ClassId} {ad : Nat → Nat} (hap : jw_ap 57 ad) (σ : RS) (res : RS) (hf : s_cX2_clear σ = some res) : jm_u l KW NW (dC, dI) vwCl (jtys kA) (jw_A 57 ad) (c_w kA ad) yX2_clear cX2_clear 1 (rm_cX2_clear) [.ref (ad 16)] σ res := jm_u_of (by decide) (Nat.le_of_ble_eq_true rfl) (fun p e s m below meth c C hP hS ls hl => p_cX2_clear C hap σ hf s.heap [] ls hP hS hl)

def rm_cX2_is : Room := { frames := 0, cells := 0, slots := 0, locals := 0 }
def G_cX2_is (p : Program) (l : Launch) (e : Env) (s : State) (m : MethodId) (args : Array Value) (below : List Frame) (meth : Method) (c : Code) (dC : Nat → ClassId) (dI : Nat → Nat → Nat) (kA : Nat → ClassId) (ad : Nat → Nat) (res : Int32 × RS) (F : RS → Option (Int32 × RS)) : Prop := ∀ (σ : RS), F σ = some res → ∀ (H : Heap) (locs : List Loc) (ls : Array Slot), va_P (dC, dI) vwCl (c_w kA ad σ) H → va_S (jw_A 57 ad) s.heap H locs → lv_has ls 1 [(0, .ref (ad 16))] → W p l e rm_cX2_is s m args below meth c H locs 0 0 (c_Qi below dC dI kA ad args s res) (F0 m 0 ls [])
def s_cX2_is (σ : RS) : Option (Int32 × RS) := if (rg_I σ 6) = 0 then (some (0, σ)) else (some (1, σ))
set_option maxRecDepth 100000 in
set_option maxHeartbeats 4000000 in
theorem p_cX2_is {p : Program} {l : Launch} {e : Env} {s : State} {m : MethodId} {args : Array Value} {below : List Frame} {meth : Method} {c : Code} {dC : Nat → ClassId} {dI : Nat → Nat → Nat} {kA : Nat → ClassId} {ad : Nat → Nat} (C : jxc cX2_is (some .boolean) 1 RX2 p s m args meth c dC dI kA) (hap : jw_ap 57 ad) {res : Int32 × RS} : G_cX2_is p l e s m args below meth c dC dI kA ad res (s_cX2_is) := by
  obtain ⟨hx, hb, hml, hown, hts, hr, hlocks, hK, hN⟩ := id C
  intro σ hf H locs ls hP hS hl
  unfold s_cX2_is at hf
  refine lv_aload_n hx hb dX2_is_0 rfl (lv_at hl 0 rfl) ?_
  refine c_gX2_sort hx hb hts hown hK hP (hts _ kw_197) dX2_is_1 ?_
  refine jb_eq (tgt := 11) hx hb hf dX2_is_4 (by decide) (fun hf => ?_) (fun hf => ?_)
  · refine lv_iconst (v := 0) hx hb dX2_is_11 (by decide) ?_
    exact jr_i hx hb hr hlocks hf (by decide) hP hS dX2_is_12
  · refine lv_iconst (v := 1) hx hb dX2_is_7 (by decide) ?_
    refine lv_goto (tgt := 12) hx hb dX2_is_8 (by decide) ?_
    exact jr_i hx hb hr hlocks hf (by decide) hP hS dX2_is_12
theorem c_cX2_is (l : Launch) {dC : Nat → ClassId} {dI : Nat → Nat → Nat} {kA : Nat → ClassId} {ad : Nat → Nat} (hap : jw_ap 57 ad) (σ : RS) (res : Int32 × RS) (hf : s_cX2_is σ = some res) : jm_i l KW NW (dC, dI) vwCl (jtys kA) (jw_A 57 ad) (c_w kA ad) yX2_is cX2_is 1 .boolean (rm_cX2_is) [.ref (ad 16)] σ res := jm_i_of (by decide) (Nat.le_of_ble_eq_true rfl) (fun p e s m below meth c C hP hS ls hl => p_cX2_is C hap σ hf s.heap [] ls hP hS hl)

def rm_cX2_keep : Room := { frames := 0, cells := 0, slots := 0, locals := 0 }
def G_cX2_keep (p : Program) (l : Launch) (e : Env) (s : State) (m : MethodId) (args : Array Value) (below : List Frame) (meth : Method) (c : Code) (dC : Nat → ClassId) (dI : Nat → Nat → Nat) (kA : Nat → ClassId) (ad : Nat → Nat) (res : RS) (F : RS → Int32 → Int32 → Int32 → Int32 → Int32 → Option (RS)) : Prop := ∀ (σ : RS) (x1 : Int32) (x2 : Int32) (x3 : Int32) (x4 : Int32) (x5 : Int32), F σ x1 x2 x3 x4 x5 = some res → ∀ (H : Heap) (locs : List Loc) (ls : Array Slot), va_P (dC, dI) vwCl (c_w kA ad σ) H → va_S (jw_A 57 ad) s.heap H locs → lv_has ls 6 [(0, .ref (ad 16)), (1, .int x1), (2, .int x2), (3, .int x3), (4, .int x4), (5, .int x5)] → W p l e rm_cX2_keep s m args below meth c H locs 0 0 (c_Qu below dC dI kA ad args s res) (F0 m 0 ls [])
def s_cX2_keep (σ : RS) (x1 : Int32) (x2 : Int32) (x3 : Int32) (x4 : Int32) (x5 : Int32) : Option (RS) := kn_v (rs_I σ 6 x1) (fun σ1 => kn_v (rs_I σ1 7 x2) (fun σ2 => kn_v (rs_I σ2 8 x3) (fun σ3 => kn_v (rs_I σ3 9 x4) (fun σ4 => kn_v (rs_I σ4 10 x5) (fun σ5 => some σ5)))))
set_option maxRecDepth 100000 in
set_option maxHeartbeats 4000000 in
theorem p_cX2_keep {p : Program} {l : Launch} {e : Env} {s : State} {m : MethodId} {args : Array Value} {below : List Frame} {meth : Method} {c : Code} {dC : Nat → ClassId} {dI : Nat → Nat → Nat} {kA : Nat → ClassId} {ad : Nat → Nat} (C : jxc cX2_keep none 6 RX2 p s m args meth c dC dI kA) (hap : jw_ap 57 ad) {res : RS} : G_cX2_keep p l e s m args below meth c dC dI kA ad res (s_cX2_keep) := by
  obtain ⟨hx, hb, hml, hown, hts, hr, hlocks, hK, hN⟩ := id C
  intro σ x1 x2 x3 x4 x5 hf H locs ls hP hS hl
  unfold s_cX2_keep at hf
  refine lv_aload_n hx hb dX2_keep_0 rfl (lv_at hl 0 rfl) ?_
  refine lv_iload_n hx hb dX2_keep_1 rfl (lv_at hl 1 rfl) ?_
  refine c_pX2_sort hx hb hts hown hK hap hP hS hf (hts _ kw_197) dX2_keep_2 (fun σ1 H locs hP hS hf => ?_)
  refine lv_aload_n hx hb dX2_keep_5 rfl (lv_at hl 0 rfl) ?_
  refine lv_iload_n hx hb dX2_keep_6 rfl (lv_at hl 2 rfl) ?_
  refine c_pX2_act hx hb hts hown hK hap hP hS hf (hts _ kw_198) dX2_keep_7 (fun σ2 H locs hP hS hf => ?_)
  refine lv_aload_n hx hb dX2_keep_10 rfl (lv_at hl 0 rfl) ?_
  refine lv_iload_n hx hb dX2_keep_11 rfl (lv_at hl 3 rfl) ?_
  refine c_pX2_node hx hb hts hown hK hap hP hS hf (hts _ kw_199) dX2_keep_12 (fun σ3 H locs hP hS hf => ?_)
  refine lv_aload_n hx hb dX2_keep_15 rfl (lv_at hl 0 rfl) ?_
  refine lv_iload hx hb dX2_keep_16 (lv_at hl 4 rfl) ?_
  refine c_pX2_arc hx hb hts hown hK hap hP hS hf (hts _ kw_200) dX2_keep_18 (fun σ4 H locs hP hS hf => ?_)
  refine lv_aload_n hx hb dX2_keep_21 rfl (lv_at hl 0 rfl) ?_
  refine lv_iload hx hb dX2_keep_22 (lv_at hl 5 rfl) ?_
  refine c_pX2_round hx hb hts hown hK hap hP hS hf (hts _ kw_201) dX2_keep_24 (fun σ5 H locs hP hS hf => ?_)
  exact jr_u hx hb hr hlocks hf hP hS dX2_keep_27
theorem c_cX2_keep (l : Launch) {dC : Nat → ClassId} {dI : Nat → Nat → Nat} {kA : Nat → ClassId} {ad : Nat → Nat} (hap : jw_ap 57 ad) (σ : RS) (x1 : Int32) (x2 : Int32) (x3 : Int32) (x4 : Int32) (x5 : Int32) (res : RS) (hf : s_cX2_keep σ x1 x2 x3 x4 x5 = some res) : jm_u l KW NW (dC, dI) vwCl (jtys kA) (jw_A 57 ad) (c_w kA ad) yX2_keep cX2_keep 6 (rm_cX2_keep) [.ref (ad 16), .int x1, .int x2, .int x3, .int x4, .int x5] σ res := jm_u_of (by decide) (Nat.le_of_ble_eq_true rfl) (fun p e s m below meth c C hP hS ls hl => p_cX2_keep C hap σ x1 x2 x3 x4 x5 hf s.heap [] ls hP hS hl)

def rm_cX2_tell : Room := { frames := 0, cells := 0, slots := 0, locals := 0 }
def G_cX2_tell (p : Program) (l : Launch) (e : Env) (s : State) (m : MethodId) (args : Array Value) (below : List Frame) (meth : Method) (c : Code) (dC : Nat → ClassId) (dI : Nat → Nat → Nat) (kA : Nat → ClassId) (ad : Nat → Nat) (res : Int32 × RS) (F : RS → Int32 → Option (Int32 × RS)) : Prop := ∀ (σ : RS) (x1 : Int32), F σ x1 = some res → ∀ (H : Heap) (locs : List Loc) (ls : Array Slot), va_P (dC, dI) vwCl (c_w kA ad σ) H → va_S (jw_A 57 ad) s.heap H locs → lv_has ls 2 [(0, .ref (ad 16)), (1, .int x1)] → W p l e rm_cX2_tell s m args below meth c H locs 0 0 (c_Qi below dC dI kA ad args s res) (F0 m 0 ls [])
def s_cX2_tell (σ : RS) (x1 : Int32) : Option (Int32 × RS) := if x1 < 0 then (some ((-102), σ)) else (if x1 ≤ 4 then (if x1 = 0 then (some (rg_I σ 6, σ)) else (if (rg_I σ 6) = 0 then (some ((-1), σ)) else (if x1 = 1 then (some (rg_I σ 7, σ)) else (if x1 = 2 then (some (rg_I σ 8, σ)) else (if x1 = 3 then (some (rg_I σ 9, σ)) else (some (rg_I σ 10, σ))))))) else (some ((-102), σ)))
set_option maxRecDepth 100000 in
set_option maxHeartbeats 4000000 in
theorem p_cX2_tell {p : Program} {l : Launch} {e : Env} {s : State} {m : MethodId} {args : Array Value} {below : List Frame} {meth : Method} {c : Code} {dC : Nat → ClassId} {dI : Nat → Nat → Nat} {kA : Nat → ClassId} {ad : Nat → Nat} (C : jxc cX2_tell (some .int) 2 RX2 p s m args meth c dC dI kA) (hap : jw_ap 57 ad) {res : Int32 × RS} : G_cX2_tell p l e s m args below meth c dC dI kA ad res (s_cX2_tell) := by
  obtain ⟨hx, hb, hml, hown, hts, hr, hlocks, hK, hN⟩ := id C
  intro σ x1 hf H locs ls hP hS hl
  unfold s_cX2_tell at hf
  refine lv_iload_n hx hb dX2_tell_0 rfl (lv_at hl 1 rfl) ?_
  refine jb_lt (tgt := 9) hx hb hf dX2_tell_1 (by decide) (fun hf => ?_) (fun hf => ?_)
  · refine lv_bipush (v := (-102)) hx hb dX2_tell_9 (by decide) ?_
    exact jr_i hx hb hr hlocks hf rfl hP hS dX2_tell_11
  · refine lv_iload_n hx hb dX2_tell_4 rfl (lv_at hl 1 rfl) ?_
    refine lv_iconst (v := 4) hx hb dX2_tell_5 (by decide) ?_
    refine jc_le (tgt := 12) hx hb hf dX2_tell_6 (by decide) (fun hf => ?_) (fun hf => ?_)
    · refine lv_iload_n hx hb dX2_tell_12 rfl (lv_at hl 1 rfl) ?_
      refine jb_ne (tgt := 21) hx hb hf dX2_tell_13 (by decide) (fun hf => ?_) (fun hf => ?_)
      · refine lv_aload_n hx hb dX2_tell_21 rfl (lv_at hl 0 rfl) ?_
        refine c_gX2_sort hx hb hts hown hK hP (hts _ kw_197) dX2_tell_22 ?_
        refine jb_ne (tgt := 30) hx hb hf dX2_tell_25 (by decide) (fun hf => ?_) (fun hf => ?_)
        · refine lv_iload_n hx hb dX2_tell_30 rfl (lv_at hl 1 rfl) ?_
          by_cases c1 : x1 = 1
          · have hf := kn_t hf c1
            refine lv_tableIn (tgt := 56) hx hb dX2_tell_31 (by rw [c1]; decide) (by rw [c1]; decide) (by rw [c1]; rfl) (by decide) ?_
            refine lv_aload_n hx hb dX2_tell_56 rfl (lv_at hl 0 rfl) ?_
            refine c_gX2_act hx hb hts hown hK hP (hts _ kw_198) dX2_tell_57 ?_
            exact jr_i hx hb hr hlocks hf rfl hP hS dX2_tell_60
          · have hf := kn_f hf c1
            by_cases c2 : x1 = 2
            · have hf := kn_t hf c2
              refine lv_tableIn (tgt := 61) hx hb dX2_tell_31 (by rw [c2]; decide) (by rw [c2]; decide) (by rw [c2]; rfl) (by decide) ?_
              refine lv_aload_n hx hb dX2_tell_61 rfl (lv_at hl 0 rfl) ?_
              refine c_gX2_node hx hb hts hown hK hP (hts _ kw_199) dX2_tell_62 ?_
              exact jr_i hx hb hr hlocks hf rfl hP hS dX2_tell_65
            · have hf := kn_f hf c2
              by_cases c3 : x1 = 3
              · have hf := kn_t hf c3
                refine lv_tableIn (tgt := 66) hx hb dX2_tell_31 (by rw [c3]; decide) (by rw [c3]; decide) (by rw [c3]; rfl) (by decide) ?_
                refine lv_aload_n hx hb dX2_tell_66 rfl (lv_at hl 0 rfl) ?_
                refine c_gX2_arc hx hb hts hown hK hP (hts _ kw_200) dX2_tell_67 ?_
                exact jr_i hx hb hr hlocks hf rfl hP hS dX2_tell_70
              · have hf := kn_f hf c3
                refine lv_tableOut (tgt := 71) hx hb dX2_tell_31 (by have t0 := lv_neT c1 (a := 1) (by decide); have t1 := lv_neT c2 (a := 2) (by decide); have t2 := lv_neT c3 (a := 3) (by decide); omega) (by decide) ?_
                refine lv_aload_n hx hb dX2_tell_71 rfl (lv_at hl 0 rfl) ?_
                refine c_gX2_round hx hb hts hown hK hP (hts _ kw_201) dX2_tell_72 ?_
                exact jr_i hx hb hr hlocks hf rfl hP hS dX2_tell_75
        · refine lv_iconst (v := (-1)) hx hb dX2_tell_28 (by decide) ?_
          exact jr_i hx hb hr hlocks hf rfl hP hS dX2_tell_29
      · refine lv_aload_n hx hb dX2_tell_16 rfl (lv_at hl 0 rfl) ?_
        refine c_gX2_sort hx hb hts hown hK hP (hts _ kw_197) dX2_tell_17 ?_
        exact jr_i hx hb hr hlocks hf rfl hP hS dX2_tell_20
    · refine lv_bipush (v := (-102)) hx hb dX2_tell_9 (by decide) ?_
      exact jr_i hx hb hr hlocks hf rfl hP hS dX2_tell_11
theorem c_cX2_tell (l : Launch) {dC : Nat → ClassId} {dI : Nat → Nat → Nat} {kA : Nat → ClassId} {ad : Nat → Nat} (hap : jw_ap 57 ad) (σ : RS) (x1 : Int32) (res : Int32 × RS) (hf : s_cX2_tell σ x1 = some res) : jm_i l KW NW (dC, dI) vwCl (jtys kA) (jw_A 57 ad) (c_w kA ad) yX2_tell cX2_tell 2 .int (rm_cX2_tell) [.ref (ad 16), .int x1] σ res := jm_i_of (by decide) (Nat.le_of_ble_eq_true rfl) (fun p e s m below meth c C hP hS ls hl => p_cX2_tell C hap σ x1 hf s.heap [] ls hP hS hl)

def rm_cX4_take : Room := { frames := 1, cells := 0, slots := 0, locals := 18 }
def G_cX4_take_b44 (p : Program) (l : Launch) (e : Env) (s : State) (m : MethodId) (args : Array Value) (below : List Frame) (meth : Method) (c : Code) (dC : Nat → ClassId) (dI : Nat → Nat → Nat) (kA : Nat → ClassId) (ad : Nat → Nat) (j : Nat) (res : RS) (F : RS → Option (RS)) : Prop := ∀ (σ : RS), F σ = some res → ∀ (H : Heap) (locs : List Loc) (ls : Array Slot), va_P (dC, dI) vwCl (c_w kA ad σ) H → va_S (jw_A 57 ad) s.heap H locs → lv_has ls 3 [(0, .ref (ad (36 + 3 * j))), (1, .ref (ad 7))] → W p l e rm_cX4_take s m args below meth c H locs 0 0 (c_Qu below dC dI kA ad args s res) (F0 m 44 ls [])
def G_cX4_take_b20 (p : Program) (l : Launch) (e : Env) (s : State) (m : MethodId) (args : Array Value) (below : List Frame) (meth : Method) (c : Code) (dC : Nat → ClassId) (dI : Nat → Nat → Nat) (kA : Nat → ClassId) (ad : Nat → Nat) (j : Nat) (res : RS) (F : RS → Int32 → Option (RS)) : Prop := ∀ (σ : RS) (x2 : Int32), F σ x2 = some res → ∀ (H : Heap) (locs : List Loc) (ls : Array Slot), va_P (dC, dI) vwCl (c_w kA ad σ) H → va_S (jw_A 57 ad) s.heap H locs → lv_has ls 3 [(0, .ref (ad (36 + 3 * j))), (1, .ref (ad 7)), (2, .int x2)] → W p l e rm_cX4_take s m args below meth c H locs 0 0 (c_Qu below dC dI kA ad args s res) (F0 m 20 ls [])
def G_cX4_take (p : Program) (l : Launch) (e : Env) (s : State) (m : MethodId) (args : Array Value) (below : List Frame) (meth : Method) (c : Code) (dC : Nat → ClassId) (dI : Nat → Nat → Nat) (kA : Nat → ClassId) (ad : Nat → Nat) (j : Nat) (res : RS) (F : RS → Option (RS)) : Prop := ∀ (σ : RS), F σ = some res → ∀ (H : Heap) (locs : List Loc) (ls : Array Slot), va_P (dC, dI) vwCl (c_w kA ad σ) H → va_S (jw_A 57 ad) s.heap H locs → lv_has ls 3 [(0, .ref (ad (36 + 3 * j))), (1, .ref (ad 7))] → W p l e rm_cX4_take s m args below meth c H locs 0 0 (c_Qu below dC dI kA ad args s res) (F0 m 0 ls [])
def s_cX4_take_b44 (j : Nat) (σ : RS) : Option (RS) := kn_v (rs_I σ (21 + j) (rg_I σ 4)) (fun σ1 => kn_v (rs_L σ1 (2 + j) (rg_L σ1 0)) (fun σ2 => some σ2))
set_option maxRecDepth 100000 in
set_option maxHeartbeats 4000000 in
theorem p_cX4_take_b44 {p : Program} {l : Launch} {e : Env} {s : State} {m : MethodId} {args : Array Value} {below : List Frame} {meth : Method} {c : Code} {dC : Nat → ClassId} {dI : Nat → Nat → Nat} {kA : Nat → ClassId} {ad : Nat → Nat} (C : jxc cX4_take none 3 RX4 p s m args meth c dC dI kA) (hap : jw_ap 57 ad) (j : Nat) (hj : j < 7) {res : RS} : G_cX4_take_b44 p l e s m args below meth c dC dI kA ad j res (s_cX4_take_b44 j) := by
  obtain ⟨hx, hb, hml, hown, hts, hr, hlocks, hK, hN⟩ := id C
  intro σ hf H locs ls hP hS hl
  unfold s_cX4_take_b44 at hf
  refine lv_aload_n hx hb dX4_take_44 rfl (lv_at hl 0 rfl) ?_
  refine lv_aload_n hx hb dX4_take_45 rfl (lv_at hl 1 rfl) ?_
  refine c_gX10_rounds hx hb hts hown hK hP (hts _ kw_143) dX4_take_46 ?_
  refine c_pX4_rounds hx hb hts hown hK hap hj hP hS hf (hts _ kw_228) dX4_take_49 (fun σ1 H locs hP hS hf => ?_)
  refine lv_aload_n hx hb dX4_take_52 rfl (lv_at hl 0 rfl) ?_
  refine lv_aload_n hx hb dX4_take_53 rfl (lv_at hl 1 rfl) ?_
  refine c_gX10_sum hx hb hts hown hK hP (hts _ kw_149) dX4_take_54 ?_
  refine c_pX4_sum hx hb hts hown hK hap hj hP hS hf (hts _ kw_229) dX4_take_57 (fun σ2 H locs hP hS hf => ?_)
  exact jr_u hx hb hr hlocks hf hP hS dX4_take_60
def s_cX4_take_b20 (j : Nat) (k20 : RS → Int32 → Option (RS)) (σ : RS) (x2 : Int32) : Option (RS) := if 12 ≤ x2 then (s_cX4_take_b44 j σ) else (kn_ld (rg_A σ 4) 12 x2 (fun v1 => kn_st (rs_A σ (15 + j) (upd (rg_A σ (15 + j)) x2.toNatClampNeg (vp_nar .boolean v1))) 12 x2 (fun σ2 => kn_v (x2 + 1) (fun v3 => k20 σ2 v3))))
set_option maxRecDepth 100000 in
set_option maxHeartbeats 4000000 in
theorem p_cX4_take_b20 {p : Program} {l : Launch} {e : Env} {s : State} {m : MethodId} {args : Array Value} {below : List Frame} {meth : Method} {c : Code} {dC : Nat → ClassId} {dI : Nat → Nat → Nat} {kA : Nat → ClassId} {ad : Nat → Nat} (C : jxc cX4_take none 3 RX4 p s m args meth c dC dI kA) (hap : jw_ap 57 ad) (j : Nat) (hj : j < 7) {res : RS} {k20 : RS → Int32 → Option (RS)} (hk20 : G_cX4_take_b20 p l e s m args below meth c dC dI kA ad j res k20) : G_cX4_take_b20 p l e s m args below meth c dC dI kA ad j res (s_cX4_take_b20 j k20) := by
  obtain ⟨hx, hb, hml, hown, hts, hr, hlocks, hK, hN⟩ := id C
  intro σ x2 hf H locs ls hP hS hl
  unfold s_cX4_take_b20 at hf
  refine lv_iload_n hx hb dX4_take_20 rfl (lv_at hl 2 rfl) ?_
  refine lv_bipush (v := 12) hx hb dX4_take_21 (by decide) ?_
  refine jc_ge (tgt := 44) hx hb hf dX4_take_23 (by decide) (fun hf => ?_) (fun hf => ?_)
  · exact (p_cX4_take_b44 C hap j hj) σ hf H locs ls hP hS (lv_sub hl [0, 1] rfl)
  · refine lv_aload_n hx hb dX4_take_26 rfl (lv_at hl 0 rfl) ?_
    refine c_gX4_awake hx hb hts hown hK hj hP (hts _ kw_227) dX4_take_27 ?_
    refine lv_iload_n hx hb dX4_take_30 rfl (lv_at hl 2 rfl) ?_
    refine lv_aload_n hx hb dX4_take_31 rfl (lv_at hl 1 rfl) ?_
    refine c_gX10_awake hx hb hts hown hK hP (hts _ kw_121) dX4_take_32 ?_
    refine lv_iload_n hx hb dX4_take_35 rfl (lv_at hl 2 rfl) ?_
    refine ja_zld hx hb hK hP 9 2 rfl rfl hf dX4_take_36 (fun v1 hf => ?_)
    refine ja_zst hx hb hK (c_D hap σ) hP hS (36 + 3 * j + 2) 2 (c_lm2 hj) rfl rfl (c_sm2 hj) hf dX4_take_37 (fun σ2 H locs hP hS hf => ?_)
    obtain ⟨v3, e_v3, hf⟩ := kn_v_e hf
    refine lv_iinc (v := v3) (lv' := [(2, .int v3), (0, .ref (ad (36 + 3 * j))), (1, .ref (ad 7))]) hx hb dX4_take_38 hl (k := 2) rfl e_v3 (by decide) rfl (fun ls hl => ?_)
    refine lv_goto (tgt := 20) hx hb dX4_take_41 (by decide) ?_
    exact hk20 σ2 v3 hf H locs ls hP hS (lv_sub hl [1, 2, 0] rfl)
def f_cX4_take_b20 (j : Nat) : RS → Int32 → Option (RS) := kn_fix (fun _ _ => none) (s_cX4_take_b20 j) FU
theorem q_cX4_take_b20 {p : Program} {l : Launch} {e : Env} {s : State} {m : MethodId} {args : Array Value} {below : List Frame} {meth : Method} {c : Code} {dC : Nat → ClassId} {dI : Nat → Nat → Nat} {kA : Nat → ClassId} {ad : Nat → Nat} (C : jxc cX4_take none 3 RX4 p s m args meth c dC dI kA) (hap : jw_ap 57 ad) (j : Nat) (hj : j < 7) {res : RS} : G_cX4_take_b20 p l e s m args below meth c dC dI kA ad j res (f_cX4_take_b20 j) := kn_fix_ind (G := fun F => G_cX4_take_b20 p l e s m args below meth c dC dI kA ad j res F) (fun _ _ hf => by cases hf) (fun k20 hk20 => p_cX4_take_b20 C hap j hj hk20) FU
def s_cX4_take (j : Nat) (σ : RS) : Option (RS) := kn_cp 36 36 (0 : Int32) (0 : Int32) (36 : Int32) (rs_B σ (9 + j) (va_cpy (rg_B σ 1) (rg_B σ (9 + j)) (0 : Int32).toNatClampNeg (0 : Int32).toNatClampNeg (36 : Int32).toNatClampNeg)) (fun σ1 => f_cX4_take_b20 j σ1 0)
set_option maxRecDepth 100000 in
set_option maxHeartbeats 4000000 in
theorem p_cX4_take {p : Program} {l : Launch} {e : Env} {s : State} {m : MethodId} {args : Array Value} {below : List Frame} {meth : Method} {c : Code} {dC : Nat → ClassId} {dI : Nat → Nat → Nat} {kA : Nat → ClassId} {ad : Nat → Nat} (C : jxc cX4_take none 3 RX4 p s m args meth c dC dI kA) (hap : jw_ap 57 ad) (j : Nat) (hj : j < 7) {res : RS} : G_cX4_take p l e s m args below meth c dC dI kA ad j res (s_cX4_take j) := by
  obtain ⟨hx, hb, hml, hown, hts, hr, hlocks, hK, hN⟩ := id C
  intro σ hf H locs ls hP hS hl
  unfold s_cX4_take at hf
  refine lv_aload_n hx hb dX4_take_0 rfl (lv_at hl 1 rfl) ?_
  refine c_gX10_states hx hb hts hown hK hP (hts _ kw_115) dX4_take_1 ?_
  refine lv_iconst (v := 0) hx hb dX4_take_4 (by decide) ?_
  refine lv_aload_n hx hb dX4_take_5 rfl (lv_at hl 0 rfl) ?_
  refine c_gX4_states hx hb hts hown hK hj hP (hts _ kw_226) dX4_take_6 ?_
  refine lv_iconst (v := 0) hx hb dX4_take_9 (by decide) ?_
  refine lv_aload_n hx hb dX4_take_10 rfl (lv_at hl 0 rfl) ?_
  refine c_gX4_states hx hb hts hown hK hj hP (hts _ kw_226) dX4_take_11 ?_
  refine va_alen hx hb hK hP (36 + 3 * j + 1) 1 (c_lm1 hj) rfl (v := 36) rfl dX4_take_14 ?_
  refine ja_cpl hx hb (hml.trans hl.1.symm) hown (hts _ kw_529) (hts _ kw_531) (hts _ kw_530) (hts _ kw_65) hK (c_D hap σ) hP hS 8 (36 + 3 * j + 1) 1 rfl (c_lm1 hj) rfl (c_sm1 hj) hf (Nat.le_of_ble_eq_true rfl) (Nat.le_of_ble_eq_true rfl) dX4_take_15 (fun σ1 H locs hP hS hf => ?_)
  refine lv_iconst (v := 0) hx hb dX4_take_18 (by decide) ?_
  refine lv_istore_n (lv' := [(2, .int 0), (0, .ref (ad (36 + 3 * j))), (1, .ref (ad 7))]) hx hb dX4_take_19 rfl hl (by decide) rfl (fun ls hl => ?_)
  exact (q_cX4_take_b20 C hap j hj) σ1 0 hf H locs ls hP hS (lv_sub hl [1, 2, 0] rfl)
theorem c_cX4_take (l : Launch) {dC : Nat → ClassId} {dI : Nat → Nat → Nat} {kA : Nat → ClassId} {ad : Nat → Nat} (hap : jw_ap 57 ad) (j : Nat) (hj : j < 7) (σ : RS) (res : RS) (hf : s_cX4_take j σ = some res) : jm_u l KW NW (dC, dI) vwCl (jtys kA) (jw_A 57 ad) (c_w kA ad) yX4_take cX4_take 3 (rm_cX4_take) [.ref (ad (36 + 3 * j)), .ref (ad 7)] σ res := jm_u_of (by decide) (Nat.le_of_ble_eq_true rfl) (fun p e s m below meth c C hP hS ls hl => p_cX4_take C hap j hj σ hf s.heap [] ls hP hS hl)

def rm_cX4_giveBack : Room := { frames := 1, cells := 0, slots := 0, locals := 18 }
def G_cX4_giveBack_b44 (p : Program) (l : Launch) (e : Env) (s : State) (m : MethodId) (args : Array Value) (below : List Frame) (meth : Method) (c : Code) (dC : Nat → ClassId) (dI : Nat → Nat → Nat) (kA : Nat → ClassId) (ad : Nat → Nat) (j : Nat) (res : RS) (F : RS → Option (RS)) : Prop := ∀ (σ : RS), F σ = some res → ∀ (H : Heap) (locs : List Loc) (ls : Array Slot), va_P (dC, dI) vwCl (c_w kA ad σ) H → va_S (jw_A 57 ad) s.heap H locs → lv_has ls 3 [(0, .ref (ad (36 + 3 * j))), (1, .ref (ad 7))] → W p l e rm_cX4_giveBack s m args below meth c H locs 0 0 (c_Qu below dC dI kA ad args s res) (F0 m 44 ls [])
def G_cX4_giveBack_b20 (p : Program) (l : Launch) (e : Env) (s : State) (m : MethodId) (args : Array Value) (below : List Frame) (meth : Method) (c : Code) (dC : Nat → ClassId) (dI : Nat → Nat → Nat) (kA : Nat → ClassId) (ad : Nat → Nat) (j : Nat) (res : RS) (F : RS → Int32 → Option (RS)) : Prop := ∀ (σ : RS) (x2 : Int32), F σ x2 = some res → ∀ (H : Heap) (locs : List Loc) (ls : Array Slot), va_P (dC, dI) vwCl (c_w kA ad σ) H → va_S (jw_A 57 ad) s.heap H locs → lv_has ls 3 [(0, .ref (ad (36 + 3 * j))), (1, .ref (ad 7)), (2, .int x2)] → W p l e rm_cX4_giveBack s m args below meth c H locs 0 0 (c_Qu below dC dI kA ad args s res) (F0 m 20 ls [])
def G_cX4_giveBack (p : Program) (l : Launch) (e : Env) (s : State) (m : MethodId) (args : Array Value) (below : List Frame) (meth : Method) (c : Code) (dC : Nat → ClassId) (dI : Nat → Nat → Nat) (kA : Nat → ClassId) (ad : Nat → Nat) (j : Nat) (res : RS) (F : RS → Option (RS)) : Prop := ∀ (σ : RS), F σ = some res → ∀ (H : Heap) (locs : List Loc) (ls : Array Slot), va_P (dC, dI) vwCl (c_w kA ad σ) H → va_S (jw_A 57 ad) s.heap H locs → lv_has ls 3 [(0, .ref (ad (36 + 3 * j))), (1, .ref (ad 7))] → W p l e rm_cX4_giveBack s m args below meth c H locs 0 0 (c_Qu below dC dI kA ad args s res) (F0 m 0 ls [])
def s_cX4_giveBack_b44 (j : Nat) (σ : RS) : Option (RS) := kn_v (rs_I σ 4 (rg_I σ (21 + j))) (fun σ1 => kn_v (rs_L σ1 0 (rg_L σ1 (2 + j))) (fun σ2 => some σ2))
set_option maxRecDepth 100000 in
set_option maxHeartbeats 4000000 in
theorem p_cX4_giveBack_b44 {p : Program} {l : Launch} {e : Env} {s : State} {m : MethodId} {args : Array Value} {below : List Frame} {meth : Method} {c : Code} {dC : Nat → ClassId} {dI : Nat → Nat → Nat} {kA : Nat → ClassId} {ad : Nat → Nat} (C : jxc cX4_giveBack none 3 RX4 p s m args meth c dC dI kA) (hap : jw_ap 57 ad) (j : Nat) (hj : j < 7) {res : RS} : G_cX4_giveBack_b44 p l e s m args below meth c dC dI kA ad j res (s_cX4_giveBack_b44 j) := by
  obtain ⟨hx, hb, hml, hown, hts, hr, hlocks, hK, hN⟩ := id C
  intro σ hf H locs ls hP hS hl
  unfold s_cX4_giveBack_b44 at hf
  refine lv_aload_n hx hb dX4_giveBack_44 rfl (lv_at hl 1 rfl) ?_
  refine lv_aload_n hx hb dX4_giveBack_45 rfl (lv_at hl 0 rfl) ?_
  refine c_gX4_rounds hx hb hts hown hK hj hP (hts _ kw_228) dX4_giveBack_46 ?_
  refine c_pX10_rounds hx hb hts hown hK hap hP hS hf (hts _ kw_143) dX4_giveBack_49 (fun σ1 H locs hP hS hf => ?_)
  refine lv_aload_n hx hb dX4_giveBack_52 rfl (lv_at hl 1 rfl) ?_
  refine lv_aload_n hx hb dX4_giveBack_53 rfl (lv_at hl 0 rfl) ?_
  refine c_gX4_sum hx hb hts hown hK hj hP (hts _ kw_229) dX4_giveBack_54 ?_
  refine c_pX10_sum hx hb hts hown hK hap hP hS hf (hts _ kw_149) dX4_giveBack_57 (fun σ2 H locs hP hS hf => ?_)
  exact jr_u hx hb hr hlocks hf hP hS dX4_giveBack_60
def s_cX4_giveBack_b20 (j : Nat) (k20 : RS → Int32 → Option (RS)) (σ : RS) (x2 : Int32) : Option (RS) := if 12 ≤ x2 then (s_cX4_giveBack_b44 j σ) else (kn_ld (rg_A σ (15 + j)) 12 x2 (fun v1 => kn_st (rs_A σ 4 (upd (rg_A σ 4) x2.toNatClampNeg (vp_nar .boolean v1))) 12 x2 (fun σ2 => kn_v (x2 + 1) (fun v3 => k20 σ2 v3))))
set_option maxRecDepth 100000 in
set_option maxHeartbeats 4000000 in
theorem p_cX4_giveBack_b20 {p : Program} {l : Launch} {e : Env} {s : State} {m : MethodId} {args : Array Value} {below : List Frame} {meth : Method} {c : Code} {dC : Nat → ClassId} {dI : Nat → Nat → Nat} {kA : Nat → ClassId} {ad : Nat → Nat} (C : jxc cX4_giveBack none 3 RX4 p s m args meth c dC dI kA) (hap : jw_ap 57 ad) (j : Nat) (hj : j < 7) {res : RS} {k20 : RS → Int32 → Option (RS)} (hk20 : G_cX4_giveBack_b20 p l e s m args below meth c dC dI kA ad j res k20) : G_cX4_giveBack_b20 p l e s m args below meth c dC dI kA ad j res (s_cX4_giveBack_b20 j k20) := by
  obtain ⟨hx, hb, hml, hown, hts, hr, hlocks, hK, hN⟩ := id C
  intro σ x2 hf H locs ls hP hS hl
  unfold s_cX4_giveBack_b20 at hf
  refine lv_iload_n hx hb dX4_giveBack_20 rfl (lv_at hl 2 rfl) ?_
  refine lv_bipush (v := 12) hx hb dX4_giveBack_21 (by decide) ?_
  refine jc_ge (tgt := 44) hx hb hf dX4_giveBack_23 (by decide) (fun hf => ?_) (fun hf => ?_)
  · exact (p_cX4_giveBack_b44 C hap j hj) σ hf H locs ls hP hS (lv_sub hl [0, 1] rfl)
  · refine lv_aload_n hx hb dX4_giveBack_26 rfl (lv_at hl 1 rfl) ?_
    refine c_gX10_awake hx hb hts hown hK hP (hts _ kw_121) dX4_giveBack_27 ?_
    refine lv_iload_n hx hb dX4_giveBack_30 rfl (lv_at hl 2 rfl) ?_
    refine lv_aload_n hx hb dX4_giveBack_31 rfl (lv_at hl 0 rfl) ?_
    refine c_gX4_awake hx hb hts hown hK hj hP (hts _ kw_227) dX4_giveBack_32 ?_
    refine lv_iload_n hx hb dX4_giveBack_35 rfl (lv_at hl 2 rfl) ?_
    refine ja_zld hx hb hK hP (36 + 3 * j + 2) 2 (c_lm2 hj) rfl hf dX4_giveBack_36 (fun v1 hf => ?_)
    refine ja_zst hx hb hK (c_D hap σ) hP hS 9 2 rfl rfl rfl c_sA4 hf dX4_giveBack_37 (fun σ2 H locs hP hS hf => ?_)
    obtain ⟨v3, e_v3, hf⟩ := kn_v_e hf
    refine lv_iinc (v := v3) (lv' := [(2, .int v3), (0, .ref (ad (36 + 3 * j))), (1, .ref (ad 7))]) hx hb dX4_giveBack_38 hl (k := 2) rfl e_v3 (by decide) rfl (fun ls hl => ?_)
    refine lv_goto (tgt := 20) hx hb dX4_giveBack_41 (by decide) ?_
    exact hk20 σ2 v3 hf H locs ls hP hS (lv_sub hl [1, 2, 0] rfl)
def f_cX4_giveBack_b20 (j : Nat) : RS → Int32 → Option (RS) := kn_fix (fun _ _ => none) (s_cX4_giveBack_b20 j) FU
theorem q_cX4_giveBack_b20 {p : Program} {l : Launch} {e : Env} {s : State} {m : MethodId} {args : Array Value} {below : List Frame} {meth : Method} {c : Code} {dC : Nat → ClassId} {dI : Nat → Nat → Nat} {kA : Nat → ClassId} {ad : Nat → Nat} (C : jxc cX4_giveBack none 3 RX4 p s m args meth c dC dI kA) (hap : jw_ap 57 ad) (j : Nat) (hj : j < 7) {res : RS} : G_cX4_giveBack_b20 p l e s m args below meth c dC dI kA ad j res (f_cX4_giveBack_b20 j) := kn_fix_ind (G := fun F => G_cX4_giveBack_b20 p l e s m args below meth c dC dI kA ad j res F) (fun _ _ hf => by cases hf) (fun k20 hk20 => p_cX4_giveBack_b20 C hap j hj hk20) FU
def s_cX4_giveBack (j : Nat) (σ : RS) : Option (RS) := kn_cp 36 36 (0 : Int32) (0 : Int32) (36 : Int32) (rs_B σ 1 (va_cpy (rg_B σ (9 + j)) (rg_B σ 1) (0 : Int32).toNatClampNeg (0 : Int32).toNatClampNeg (36 : Int32).toNatClampNeg)) (fun σ1 => f_cX4_giveBack_b20 j σ1 0)
set_option maxRecDepth 100000 in
set_option maxHeartbeats 4000000 in
theorem p_cX4_giveBack {p : Program} {l : Launch} {e : Env} {s : State} {m : MethodId} {args : Array Value} {below : List Frame} {meth : Method} {c : Code} {dC : Nat → ClassId} {dI : Nat → Nat → Nat} {kA : Nat → ClassId} {ad : Nat → Nat} (C : jxc cX4_giveBack none 3 RX4 p s m args meth c dC dI kA) (hap : jw_ap 57 ad) (j : Nat) (hj : j < 7) {res : RS} : G_cX4_giveBack p l e s m args below meth c dC dI kA ad j res (s_cX4_giveBack j) := by
  obtain ⟨hx, hb, hml, hown, hts, hr, hlocks, hK, hN⟩ := id C
  intro σ hf H locs ls hP hS hl
  unfold s_cX4_giveBack at hf
  refine lv_aload_n hx hb dX4_giveBack_0 rfl (lv_at hl 0 rfl) ?_
  refine c_gX4_states hx hb hts hown hK hj hP (hts _ kw_226) dX4_giveBack_1 ?_
  refine lv_iconst (v := 0) hx hb dX4_giveBack_4 (by decide) ?_
  refine lv_aload_n hx hb dX4_giveBack_5 rfl (lv_at hl 1 rfl) ?_
  refine c_gX10_states hx hb hts hown hK hP (hts _ kw_115) dX4_giveBack_6 ?_
  refine lv_iconst (v := 0) hx hb dX4_giveBack_9 (by decide) ?_
  refine lv_aload_n hx hb dX4_giveBack_10 rfl (lv_at hl 0 rfl) ?_
  refine c_gX4_states hx hb hts hown hK hj hP (hts _ kw_226) dX4_giveBack_11 ?_
  refine va_alen hx hb hK hP (36 + 3 * j + 1) 1 (c_lm1 hj) rfl (v := 36) rfl dX4_giveBack_14 ?_
  refine ja_cpl hx hb (hml.trans hl.1.symm) hown (hts _ kw_529) (hts _ kw_531) (hts _ kw_530) (hts _ kw_65) hK (c_D hap σ) hP hS (36 + 3 * j + 1) 8 1 (c_lm1 hj) rfl rfl c_sB1 hf (Nat.le_of_ble_eq_true rfl) (Nat.le_of_ble_eq_true rfl) dX4_giveBack_15 (fun σ1 H locs hP hS hf => ?_)
  refine lv_iconst (v := 0) hx hb dX4_giveBack_18 (by decide) ?_
  refine lv_istore_n (lv' := [(2, .int 0), (0, .ref (ad (36 + 3 * j))), (1, .ref (ad 7))]) hx hb dX4_giveBack_19 rfl hl (by decide) rfl (fun ls hl => ?_)
  exact (q_cX4_giveBack_b20 C hap j hj) σ1 0 hf H locs ls hP hS (lv_sub hl [1, 2, 0] rfl)
theorem c_cX4_giveBack (l : Launch) {dC : Nat → ClassId} {dI : Nat → Nat → Nat} {kA : Nat → ClassId} {ad : Nat → Nat} (hap : jw_ap 57 ad) (j : Nat) (hj : j < 7) (σ : RS) (res : RS) (hf : s_cX4_giveBack j σ = some res) : jm_u l KW NW (dC, dI) vwCl (jtys kA) (jw_A 57 ad) (c_w kA ad) yX4_giveBack cX4_giveBack 3 (rm_cX4_giveBack) [.ref (ad (36 + 3 * j)), .ref (ad 7)] σ res := jm_u_of (by decide) (Nat.le_of_ble_eq_true rfl) (fun p e s m below meth c C hP hS ls hl => p_cX4_giveBack C hap j hj σ hf s.heap [] ls hP hS hl)
