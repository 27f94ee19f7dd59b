theorem dX12_in_0 : decode cX12_in 0 = .ok (.iload_n 0, 1) := by decide +kernel
theorem dX12_in_1 : decode cX12_in 1 = .ok (.iload_n 1, 1) := by decide +kernel
theorem dX12_in_2 : decode cX12_in 2 = .ok (.if_icmp .lt 12, 3) := by decide +kernel
theorem dX12_in_5 : decode cX12_in 5 = .ok (.iload_n 0, 1) := by decide +kernel
theorem dX12_in_6 : decode cX12_in 6 = .ok (.iload_n 2, 1) := by decide +kernel
theorem dX12_in_7 : decode cX12_in 7 = .ok (.if_icmp .gt 7, 3) := by decide +kernel
theorem dX12_in_10 : decode cX12_in 10 = .ok (.iconst 1, 1) := by decide +kernel
theorem dX12_in_11 : decode cX12_in 11 = .ok (.goto 4, 3) := by decide +kernel
theorem dX12_in_14 : decode cX12_in 14 = .ok (.iconst 0, 1) := by decide +kernel
theorem dX12_in_15 : decode cX12_in 15 = .ok (.ireturn, 1) := by decide +kernel
theorem dX12_isTerm_0 : decode cX12_isTerm 0 = .ok (.iload_n 1, 1) := by decide +kernel
theorem dX12_isTerm_1 : decode cX12_isTerm 1 = .ok (.iconst 0, 1) := by decide +kernel
theorem dX12_isTerm_2 : decode cX12_isTerm 2 = .ok (.aload_n 0, 1) := by decide +kernel
theorem dX12_isTerm_3 : decode cX12_isTerm 3 = .ok (.getfield 108, 3) := by decide +kernel
theorem dX12_isTerm_6 : decode cX12_isTerm 6 = .ok (.iconst 1, 1) := by decide +kernel
theorem dX12_isTerm_7 : decode cX12_isTerm 7 = .ok (.isub, 1) := by decide +kernel
theorem dX12_isTerm_8 : decode cX12_isTerm 8 = .ok (.invokestatic 112, 3) := by decide +kernel
theorem dX12_isTerm_11 : decode cX12_isTerm 11 = .ok (.ireturn, 1) := by decide +kernel
theorem dX12_isNode_0 : decode cX12_isNode 0 = .ok (.iload_n 1, 1) := by decide +kernel
theorem dX12_isNode_1 : decode cX12_isNode 1 = .ok (.iconst 0, 1) := by decide +kernel
theorem dX12_isNode_2 : decode cX12_isNode 2 = .ok (.aload_n 0, 1) := by decide +kernel
theorem dX12_isNode_3 : decode cX12_isNode 3 = .ok (.getfield 116, 3) := by decide +kernel
theorem dX12_isNode_6 : decode cX12_isNode 6 = .ok (.iconst 1, 1) := by decide +kernel
theorem dX12_isNode_7 : decode cX12_isNode 7 = .ok (.isub, 1) := by decide +kernel
theorem dX12_isNode_8 : decode cX12_isNode 8 = .ok (.invokestatic 112, 3) := by decide +kernel
theorem dX12_isNode_11 : decode cX12_isNode 11 = .ok (.ireturn, 1) := by decide +kernel
theorem dX12_isArc_0 : decode cX12_isArc 0 = .ok (.iload_n 1, 1) := by decide +kernel
theorem dX12_isArc_1 : decode cX12_isArc 1 = .ok (.iconst 0, 1) := by decide +kernel
theorem dX12_isArc_2 : decode cX12_isArc 2 = .ok (.aload_n 0, 1) := by decide +kernel
theorem dX12_isArc_3 : decode cX12_isArc 3 = .ok (.getfield 119, 3) := by decide +kernel
theorem dX12_isArc_6 : decode cX12_isArc 6 = .ok (.iconst 1, 1) := by decide +kernel
theorem dX12_isArc_7 : decode cX12_isArc 7 = .ok (.isub, 1) := by decide +kernel
theorem dX12_isArc_8 : decode cX12_isArc 8 = .ok (.invokestatic 112, 3) := by decide +kernel
theorem dX12_isArc_11 : decode cX12_isArc 11 = .ok (.ireturn, 1) := by decide +kernel
theorem dX12_term_0 : decode cX12_term 0 = .ok (.iload_n 1, 1) := by decide +kernel
theorem dX12_term_1 : decode cX12_term 1 = .ok (.iconst 0, 1) := by decide +kernel
theorem dX12_term_2 : decode cX12_term 2 = .ok (.bipush 17, 2) := by decide +kernel
theorem dX12_term_4 : decode cX12_term 4 = .ok (.invokestatic 112, 3) := by decide +kernel
theorem dX12_term_7 : decode cX12_term 7 = .ok (.ifCond .ne 6, 3) := by decide +kernel
theorem dX12_term_10 : decode cX12_term 10 = .ok (.bipush (-102), 2) := by decide +kernel
theorem dX12_term_12 : decode cX12_term 12 = .ok (.ireturn, 1) := by decide +kernel
theorem dX12_term_13 : decode cX12_term 13 = .ok (.iload_n 1, 1) := by decide +kernel
theorem dX12_term_14 : decode cX12_term 14 = .ok (.bipush 7, 2) := by decide +kernel
theorem dX12_term_16 : decode cX12_term 16 = .ok (.if_icmp .le 11, 3) := by decide +kernel
theorem dX12_term_19 : decode cX12_term 19 = .ok (.aload_n 0, 1) := by decide +kernel
theorem dX12_term_20 : decode cX12_term 20 = .ok (.iload_n 2, 1) := by decide +kernel
theorem dX12_term_21 : decode cX12_term 21 = .ok (.invokevirtual 122, 3) := by decide +kernel
theorem dX12_term_24 : decode cX12_term 24 = .ok (.ifCond .eq 38, 3) := by decide +kernel
theorem dX12_term_27 : decode cX12_term 27 = .ok (.iload_n 1, 1) := by decide +kernel
theorem dX12_term_28 : decode cX12_term 28 = .ok (.bipush 7, 2) := by decide +kernel
theorem dX12_term_30 : decode cX12_term 30 = .ok (.if_icmp .le 17, 3) := by decide +kernel
theorem dX12_term_33 : decode cX12_term 33 = .ok (.iload_n 1, 1) := by decide +kernel
theorem dX12_term_34 : decode cX12_term 34 = .ok (.bipush 17, 2) := by decide +kernel
theorem dX12_term_36 : decode cX12_term 36 = .ok (.if_icmp .ge 11, 3) := by decide +kernel
theorem dX12_term_39 : decode cX12_term 39 = .ok (.aload_n 0, 1) := by decide +kernel
theorem dX12_term_40 : decode cX12_term 40 = .ok (.iload_n 3, 1) := by decide +kernel
theorem dX12_term_41 : decode cX12_term 41 = .ok (.invokevirtual 122, 3) := by decide +kernel
theorem dX12_term_44 : decode cX12_term 44 = .ok (.ifCond .eq 18, 3) := by decide +kernel
theorem dX12_term_47 : decode cX12_term 47 = .ok (.iload_n 1, 1) := by decide +kernel
theorem dX12_term_48 : decode cX12_term 48 = .ok (.bipush 16, 2) := by decide +kernel
theorem dX12_term_50 : decode cX12_term 50 = .ok (.if_icmp .ne 15, 3) := by decide +kernel
theorem dX12_term_53 : decode cX12_term 53 = .ok (.aload_n 0, 1) := by decide +kernel
theorem dX12_term_54 : decode cX12_term 54 = .ok (.iload 4, 2) := by decide +kernel
theorem dX12_term_56 : decode cX12_term 56 = .ok (.invokevirtual 122, 3) := by decide +kernel
theorem dX12_term_59 : decode cX12_term 59 = .ok (.ifCond .ne 6, 3) := by decide +kernel
theorem dX12_term_62 : decode cX12_term 62 = .ok (.bipush (-101), 2) := by decide +kernel
theorem dX12_term_64 : decode cX12_term 64 = .ok (.ireturn, 1) := by decide +kernel
theorem dX12_term_65 : decode cX12_term 65 = .ok (.iload_n 1, 1) := by decide +kernel
theorem dX12_term_66 : decode cX12_term 66 = .ok (.iconst 1, 1) := by decide +kernel
theorem dX12_term_67 : decode cX12_term 67 = .ok (.if_icmp .ne 22, 3) := by decide +kernel
theorem dX12_term_70 : decode cX12_term 70 = .ok (.lload 5, 2) := by decide +kernel
theorem dX12_term_72 : decode cX12_term 72 = .ok (.lconst 0, 1) := by decide +kernel
theorem dX12_term_73 : decode cX12_term 73 = .ok (.lcmp, 1) := by decide +kernel
theorem dX12_term_74 : decode cX12_term 74 = .ok (.ifCond .lt 12, 3) := by decide +kernel
theorem dX12_term_77 : decode cX12_term 77 = .ok (.lload 5, 2) := by decide +kernel
theorem dX12_term_79 : decode cX12_term 79 = .ok (.ldc2_w 126, 3) := by decide +kernel
theorem dX12_term_82 : decode cX12_term 82 = .ok (.lcmp, 1) := by decide +kernel
theorem dX12_term_83 : decode cX12_term 83 = .ok (.ifCond .le 6, 3) := by decide +kernel
theorem dX12_term_86 : decode cX12_term 86 = .ok (.bipush (-102), 2) := by decide +kernel
theorem dX12_term_88 : decode cX12_term 88 = .ok (.ireturn, 1) := by decide +kernel
theorem dX12_term_89 : decode cX12_term 89 = .ok (.aload_n 0, 1) := by decide +kernel
theorem dX12_term_90 : decode cX12_term 90 = .ok (.getfield 108, 3) := by decide +kernel
theorem dX12_term_93 : decode cX12_term 93 = .ok (.bipush 40, 2) := by decide +kernel
theorem dX12_term_95 : decode cX12_term 95 = .ok (.if_icmp .ne 6, 3) := by decide +kernel
theorem dX12_term_98 : decode cX12_term 98 = .ok (.bipush (-103), 2) := by decide +kernel
theorem dX12_term_100 : decode cX12_term 100 = .ok (.ireturn, 1) := by decide +kernel
theorem dX12_term_101 : decode cX12_term 101 = .ok (.aload_n 0, 1) := by decide +kernel
theorem dX12_term_102 : decode cX12_term 102 = .ok (.getfield 7, 3) := by decide +kernel
theorem dX12_term_105 : decode cX12_term 105 = .ok (.aload_n 0, 1) := by decide +kernel
theorem dX12_term_106 : decode cX12_term 106 = .ok (.getfield 108, 3) := by decide +kernel
theorem dX12_term_109 : decode cX12_term 109 = .ok (.iload_n 1, 1) := by decide +kernel
theorem dX12_term_110 : decode cX12_term 110 = .ok (.iastore, 1) := by decide +kernel
theorem dX12_term_111 : decode cX12_term 111 = .ok (.aload_n 0, 1) := by decide +kernel
theorem dX12_term_112 : decode cX12_term 112 = .ok (.getfield 13, 3) := by decide +kernel
theorem dX12_term_115 : decode cX12_term 115 = .ok (.aload_n 0, 1) := by decide +kernel
theorem dX12_term_116 : decode cX12_term 116 = .ok (.getfield 108, 3) := by decide +kernel
theorem dX12_term_119 : decode cX12_term 119 = .ok (.iload_n 2, 1) := by decide +kernel
theorem dX12_term_120 : decode cX12_term 120 = .ok (.iastore, 1) := by decide +kernel
theorem dX12_term_121 : decode cX12_term 121 = .ok (.aload_n 0, 1) := by decide +kernel
theorem dX12_term_122 : decode cX12_term 122 = .ok (.getfield 16, 3) := by decide +kernel
theorem dX12_term_125 : decode cX12_term 125 = .ok (.aload_n 0, 1) := by decide +kernel
theorem dX12_term_126 : decode cX12_term 126 = .ok (.getfield 108, 3) := by decide +kernel
theorem dX12_term_129 : decode cX12_term 129 = .ok (.iload_n 3, 1) := by decide +kernel
theorem dX12_term_130 : decode cX12_term 130 = .ok (.iastore, 1) := by decide +kernel
theorem dX12_term_131 : decode cX12_term 131 = .ok (.aload_n 0, 1) := by decide +kernel
theorem dX12_term_132 : decode cX12_term 132 = .ok (.getfield 19, 3) := by decide +kernel
theorem dX12_term_135 : decode cX12_term 135 = .ok (.aload_n 0, 1) := by decide +kernel
theorem dX12_term_136 : decode cX12_term 136 = .ok (.getfield 108, 3) := by decide +kernel
theorem dX12_term_139 : decode cX12_term 139 = .ok (.iload 4, 2) := by decide +kernel
theorem dX12_term_141 : decode cX12_term 141 = .ok (.iastore, 1) := by decide +kernel
theorem dX12_term_142 : decode cX12_term 142 = .ok (.aload_n 0, 1) := by decide +kernel
theorem dX12_term_143 : decode cX12_term 143 = .ok (.getfield 22, 3) := by decide +kernel
theorem dX12_term_146 : decode cX12_term 146 = .ok (.aload_n 0, 1) := by decide +kernel
theorem dX12_term_147 : decode cX12_term 147 = .ok (.getfield 108, 3) := by decide +kernel
theorem dX12_term_150 : decode cX12_term 150 = .ok (.lload 5, 2) := by decide +kernel
theorem dX12_term_152 : decode cX12_term 152 = .ok (.lastore, 1) := by decide +kernel
theorem dX12_term_153 : decode cX12_term 153 = .ok (.aload_n 0, 1) := by decide +kernel
theorem dX12_term_154 : decode cX12_term 154 = .ok (.dup, 1) := by decide +kernel
theorem dX12_term_155 : decode cX12_term 155 = .ok (.getfield 108, 3) := by decide +kernel
theorem dX12_term_158 : decode cX12_term 158 = .ok (.iconst 1, 1) := by decide +kernel
theorem dX12_term_159 : decode cX12_term 159 = .ok (.iadd, 1) := by decide +kernel
theorem dX12_term_160 : decode cX12_term 160 = .ok (.putfield 108, 3) := by decide +kernel
theorem dX12_term_163 : decode cX12_term 163 = .ok (.aload_n 0, 1) := by decide +kernel
theorem dX12_term_164 : decode cX12_term 164 = .ok (.getfield 108, 3) := by decide +kernel
theorem dX12_term_167 : decode cX12_term 167 = .ok (.iconst 1, 1) := by decide +kernel
theorem dX12_term_168 : decode cX12_term 168 = .ok (.isub, 1) := by decide +kernel
theorem dX12_term_169 : decode cX12_term 169 = .ok (.ireturn, 1) := by decide +kernel
theorem dX12_node_0 : decode cX12_node 0 = .ok (.aload_n 0, 1) := by decide +kernel
theorem dX12_node_1 : decode cX12_node 1 = .ok (.getfield 116, 3) := by decide +kernel
theorem dX12_node_4 : decode cX12_node 4 = .ok (.bipush 12, 2) := by decide +kernel
theorem dX12_node_6 : decode cX12_node 6 = .ok (.if_icmp .ne 6, 3) := by decide +kernel
theorem dX12_node_9 : decode cX12_node 9 = .ok (.bipush (-103), 2) := by decide +kernel
theorem dX12_node_11 : decode cX12_node 11 = .ok (.ireturn, 1) := by decide +kernel
theorem dX12_node_12 : decode cX12_node 12 = .ok (.aload_n 0, 1) := by decide +kernel
theorem dX12_node_13 : decode cX12_node 13 = .ok (.getfield 29, 3) := by decide +kernel
theorem dX12_node_16 : decode cX12_node 16 = .ok (.aload_n 0, 1) := by decide +kernel
theorem dX12_node_17 : decode cX12_node 17 = .ok (.getfield 116, 3) := by decide +kernel
theorem dX12_node_20 : decode cX12_node 20 = .ok (.iconst 1, 1) := by decide +kernel
theorem dX12_node_21 : decode cX12_node 21 = .ok (.bastore, 1) := by decide +kernel
theorem dX12_node_22 : decode cX12_node 22 = .ok (.aload_n 0, 1) := by decide +kernel
theorem dX12_node_23 : decode cX12_node 23 = .ok (.dup, 1) := by decide +kernel
theorem dX12_node_24 : decode cX12_node 24 = .ok (.getfield 116, 3) := by decide +kernel
theorem dX12_node_27 : decode cX12_node 27 = .ok (.iconst 1, 1) := by decide +kernel
theorem dX12_node_28 : decode cX12_node 28 = .ok (.iadd, 1) := by decide +kernel
theorem dX12_node_29 : decode cX12_node 29 = .ok (.putfield 116, 3) := by decide +kernel
theorem dX12_node_32 : decode cX12_node 32 = .ok (.aload_n 0, 1) := by decide +kernel
theorem dX12_node_33 : decode cX12_node 33 = .ok (.iconst 0, 1) := by decide +kernel
theorem dX12_node_34 : decode cX12_node 34 = .ok (.putfield 128, 3) := by decide +kernel
theorem dX12_node_37 : decode cX12_node 37 = .ok (.aload_n 0, 1) := by decide +kernel
theorem dX12_node_38 : decode cX12_node 38 = .ok (.getfield 116, 3) := by decide +kernel
theorem dX12_node_41 : decode cX12_node 41 = .ok (.iconst 1, 1) := by decide +kernel
theorem dX12_node_42 : decode cX12_node 42 = .ok (.isub, 1) := by decide +kernel
theorem dX12_node_43 : decode cX12_node 43 = .ok (.ireturn, 1) := by decide +kernel
theorem dX12_arc_0 : decode cX12_arc 0 = .ok (.aload_n 0, 1) := by decide +kernel
theorem dX12_arc_1 : decode cX12_arc 1 = .ok (.iload_n 1, 1) := by decide +kernel
theorem dX12_arc_2 : decode cX12_arc 2 = .ok (.invokevirtual 131, 3) := by decide +kernel
theorem dX12_arc_5 : decode cX12_arc 5 = .ok (.ifCond .eq 11, 3) := by decide +kernel
theorem dX12_arc_8 : decode cX12_arc 8 = .ok (.aload_n 0, 1) := by decide +kernel
theorem dX12_arc_9 : decode cX12_arc 9 = .ok (.iload_n 2, 1) := by decide +kernel
theorem dX12_arc_10 : decode cX12_arc 10 = .ok (.invokevirtual 131, 3) := by decide +kernel
theorem dX12_arc_13 : decode cX12_arc 13 = .ok (.ifCond .ne 6, 3) := by decide +kernel
theorem dX12_arc_16 : decode cX12_arc 16 = .ok (.bipush (-101), 2) := by decide +kernel
theorem dX12_arc_18 : decode cX12_arc 18 = .ok (.ireturn, 1) := by decide +kernel
theorem dX12_arc_19 : decode cX12_arc 19 = .ok (.aload_n 0, 1) := by decide +kernel
theorem dX12_arc_20 : decode cX12_arc 20 = .ok (.getfield 119, 3) := by decide +kernel
theorem dX12_arc_23 : decode cX12_arc 23 = .ok (.bipush 40, 2) := by decide +kernel
theorem dX12_arc_25 : decode cX12_arc 25 = .ok (.if_icmp .ne 6, 3) := by decide +kernel
theorem dX12_arc_28 : decode cX12_arc 28 = .ok (.bipush (-103), 2) := by decide +kernel
theorem dX12_arc_30 : decode cX12_arc 30 = .ok (.ireturn, 1) := by decide +kernel
theorem dX12_arc_31 : decode cX12_arc 31 = .ok (.aload_n 0, 1) := by decide +kernel
theorem dX12_arc_32 : decode cX12_arc 32 = .ok (.getfield 33, 3) := by decide +kernel
theorem dX12_arc_35 : decode cX12_arc 35 = .ok (.aload_n 0, 1) := by decide +kernel
theorem dX12_arc_36 : decode cX12_arc 36 = .ok (.getfield 119, 3) := by decide +kernel
theorem dX12_arc_39 : decode cX12_arc 39 = .ok (.iload_n 1, 1) := by decide +kernel
theorem dX12_arc_40 : decode cX12_arc 40 = .ok (.iastore, 1) := by decide +kernel
theorem dX12_arc_41 : decode cX12_arc 41 = .ok (.aload_n 0, 1) := by decide +kernel
theorem dX12_arc_42 : decode cX12_arc 42 = .ok (.getfield 36, 3) := by decide +kernel
theorem dX12_arc_45 : decode cX12_arc 45 = .ok (.aload_n 0, 1) := by decide +kernel
theorem dX12_arc_46 : decode cX12_arc 46 = .ok (.getfield 119, 3) := by decide +kernel
theorem dX12_arc_49 : decode cX12_arc 49 = .ok (.iload_n 2, 1) := by decide +kernel
theorem dX12_arc_50 : decode cX12_arc 50 = .ok (.iastore, 1) := by decide +kernel
theorem dX12_arc_51 : decode cX12_arc 51 = .ok (.aload_n 0, 1) := by decide +kernel
theorem dX12_arc_52 : decode cX12_arc 52 = .ok (.getfield 39, 3) := by decide +kernel
theorem dX12_arc_55 : decode cX12_arc 55 = .ok (.aload_n 0, 1) := by decide +kernel
theorem dX12_arc_56 : decode cX12_arc 56 = .ok (.getfield 119, 3) := by decide +kernel
theorem dX12_arc_59 : decode cX12_arc 59 = .ok (.lload_n 3, 1) := by decide +kernel
theorem dX12_arc_60 : decode cX12_arc 60 = .ok (.lastore, 1) := by decide +kernel
theorem dX12_arc_61 : decode cX12_arc 61 = .ok (.aload_n 0, 1) := by decide +kernel
theorem dX12_arc_62 : decode cX12_arc 62 = .ok (.dup, 1) := by decide +kernel
theorem dX12_arc_63 : decode cX12_arc 63 = .ok (.getfield 119, 3) := by decide +kernel
theorem dX12_arc_66 : decode cX12_arc 66 = .ok (.iconst 1, 1) := by decide +kernel
theorem dX12_arc_67 : decode cX12_arc 67 = .ok (.iadd, 1) := by decide +kernel
theorem dX12_arc_68 : decode cX12_arc 68 = .ok (.putfield 119, 3) := by decide +kernel
theorem dX12_arc_71 : decode cX12_arc 71 = .ok (.aload_n 0, 1) := by decide +kernel
theorem dX12_arc_72 : decode cX12_arc 72 = .ok (.iconst 0, 1) := by decide +kernel
theorem dX12_arc_73 : decode cX12_arc 73 = .ok (.putfield 128, 3) := by decide +kernel
theorem dX12_arc_76 : decode cX12_arc 76 = .ok (.aload_n 0, 1) := by decide +kernel
theorem dX12_arc_77 : decode cX12_arc 77 = .ok (.getfield 119, 3) := by decide +kernel
theorem dX12_arc_80 : decode cX12_arc 80 = .ok (.iconst 1, 1) := by decide +kernel
theorem dX12_arc_81 : decode cX12_arc 81 = .ok (.isub, 1) := by decide +kernel
theorem dX12_arc_82 : decode cX12_arc 82 = .ok (.ireturn, 1) := by decide +kernel
theorem dX12_put_0 : decode cX12_put 0 = .ok (.aload_n 0, 1) := by decide +kernel
theorem dX12_put_1 : decode cX12_put 1 = .ok (.iload_n 1, 1) := by decide +kernel
theorem dX12_put_2 : decode cX12_put 2 = .ok (.invokevirtual 131, 3) := by decide +kernel
theorem dX12_put_5 : decode cX12_put 5 = .ok (.ifCond .ne 6, 3) := by decide +kernel
theorem dX12_put_8 : decode cX12_put 8 = .ok (.bipush (-101), 2) := by decide +kernel
theorem dX12_put_10 : decode cX12_put 10 = .ok (.ireturn, 1) := by decide +kernel
theorem dX12_put_11 : decode cX12_put 11 = .ok (.iload_n 2, 1) := by decide +kernel
theorem dX12_put_12 : decode cX12_put 12 = .ok (.iconst 0, 1) := by decide +kernel
theorem dX12_put_13 : decode cX12_put 13 = .ok (.iconst 2, 1) := by decide +kernel
theorem dX12_put_14 : decode cX12_put 14 = .ok (.invokestatic 112, 3) := by decide +kernel
theorem dX12_put_17 : decode cX12_put 17 = .ok (.ifCond .ne 6, 3) := by decide +kernel
theorem dX12_put_20 : decode cX12_put 20 = .ok (.bipush (-102), 2) := by decide +kernel
theorem dX12_put_22 : decode cX12_put 22 = .ok (.ireturn, 1) := by decide +kernel
theorem dX12_put_23 : decode cX12_put 23 = .ok (.aload_n 0, 1) := by decide +kernel
theorem dX12_put_24 : decode cX12_put 24 = .ok (.getfield 26, 3) := by decide +kernel
theorem dX12_put_27 : decode cX12_put 27 = .ok (.iconst 3, 1) := by decide +kernel
theorem dX12_put_28 : decode cX12_put 28 = .ok (.iload_n 1, 1) := by decide +kernel
theorem dX12_put_29 : decode cX12_put 29 = .ok (.imul, 1) := by decide +kernel
theorem dX12_put_30 : decode cX12_put 30 = .ok (.iload_n 2, 1) := by decide +kernel
theorem dX12_put_31 : decode cX12_put 31 = .ok (.iadd, 1) := by decide +kernel
theorem dX12_put_32 : decode cX12_put 32 = .ok (.lload_n 3, 1) := by decide +kernel
theorem dX12_put_33 : decode cX12_put 33 = .ok (.lastore, 1) := by decide +kernel
theorem dX12_put_34 : decode cX12_put 34 = .ok (.aload_n 0, 1) := by decide +kernel
theorem dX12_put_35 : decode cX12_put 35 = .ok (.iconst 0, 1) := by decide +kernel
theorem dX12_put_36 : decode cX12_put 36 = .ok (.putfield 128, 3) := by decide +kernel
theorem dX12_put_39 : decode cX12_put 39 = .ok (.iconst 1, 1) := by decide +kernel
theorem dX12_put_40 : decode cX12_put 40 = .ok (.ireturn, 1) := by decide +kernel
theorem dX12_wake_0 : decode cX12_wake 0 = .ok (.aload_n 0, 1) := by decide +kernel
theorem dX12_wake_1 : decode cX12_wake 1 = .ok (.iload_n 1, 1) := by decide +kernel
theorem dX12_wake_2 : decode cX12_wake 2 = .ok (.invokevirtual 131, 3) := by decide +kernel
theorem dX12_wake_5 : decode cX12_wake 5 = .ok (.ifCond .ne 6, 3) := by decide +kernel
theorem dX12_wake_8 : decode cX12_wake 8 = .ok (.bipush (-101), 2) := by decide +kernel
theorem dX12_wake_10 : decode cX12_wake 10 = .ok (.ireturn, 1) := by decide +kernel
theorem dX12_wake_11 : decode cX12_wake 11 = .ok (.aload_n 0, 1) := by decide +kernel
theorem dX12_wake_12 : decode cX12_wake 12 = .ok (.iconst 0, 1) := by decide +kernel
theorem dX12_wake_13 : decode cX12_wake 13 = .ok (.putfield 128, 3) := by decide +kernel
theorem dX12_wake_16 : decode cX12_wake 16 = .ok (.aload_n 0, 1) := by decide +kernel
theorem dX12_wake_17 : decode cX12_wake 17 = .ok (.getfield 29, 3) := by decide +kernel
theorem dX12_wake_20 : decode cX12_wake 20 = .ok (.iload_n 1, 1) := by decide +kernel
theorem dX12_wake_21 : decode cX12_wake 21 = .ok (.baload, 1) := by decide +kernel
theorem dX12_wake_22 : decode cX12_wake 22 = .ok (.iload_n 2, 1) := by decide +kernel
theorem dX12_wake_23 : decode cX12_wake 23 = .ok (.if_icmp .ne 7, 3) := by decide +kernel
theorem dX12_wake_26 : decode cX12_wake 26 = .ok (.iconst 0, 1) := by decide +kernel
theorem dX12_wake_27 : decode cX12_wake 27 = .ok (.goto 4, 3) := by decide +kernel
theorem dX12_wake_30 : decode cX12_wake 30 = .ok (.iconst 1, 1) := by decide +kernel
theorem dX12_wake_31 : decode cX12_wake 31 = .ok (.istore_n 3, 1) := by decide +kernel
theorem dX12_wake_32 : decode cX12_wake 32 = .ok (.aload_n 0, 1) := by decide +kernel
theorem dX12_wake_33 : decode cX12_wake 33 = .ok (.getfield 29, 3) := by decide +kernel
theorem dX12_wake_36 : decode cX12_wake 36 = .ok (.iload_n 1, 1) := by decide +kernel
theorem dX12_wake_37 : decode cX12_wake 37 = .ok (.iload_n 2, 1) := by decide +kernel
theorem dX12_wake_38 : decode cX12_wake 38 = .ok (.bastore, 1) := by decide +kernel
theorem dX12_wake_39 : decode cX12_wake 39 = .ok (.iload_n 3, 1) := by decide +kernel
theorem dX12_wake_40 : decode cX12_wake 40 = .ok (.ireturn, 1) := by decide +kernel
theorem dX12_act_0 : decode cX12_act 0 = .ok (.iload_n 2, 1) := by decide +kernel
theorem dX12_act_1 : decode cX12_act 1 = .ok (.iconst (-1), 1) := by decide +kernel
theorem dX12_act_2 : decode cX12_act 2 = .ok (.if_icmp .eq 14, 3) := by decide +kernel
theorem dX12_act_5 : decode cX12_act 5 = .ok (.aload_n 0, 1) := by decide +kernel
theorem dX12_act_6 : decode cX12_act 6 = .ok (.iload_n 2, 1) := by decide +kernel
theorem dX12_act_7 : decode cX12_act 7 = .ok (.invokevirtual 122, 3) := by decide +kernel
theorem dX12_act_10 : decode cX12_act 10 = .ok (.ifCond .ne 6, 3) := by decide +kernel
theorem dX12_act_13 : decode cX12_act 13 = .ok (.bipush (-101), 2) := by decide +kernel
theorem dX12_act_15 : decode cX12_act 15 = .ok (.ireturn, 1) := by decide +kernel
theorem dX12_act_16 : decode cX12_act 16 = .ok (.iload_n 1, 1) := by decide +kernel
theorem dX12_act_17 : decode cX12_act 17 = .ok (.iconst 0, 1) := by decide +kernel
theorem dX12_act_18 : decode cX12_act 18 = .ok (.bipush 6, 2) := by decide +kernel
theorem dX12_act_20 : decode cX12_act 20 = .ok (.invokestatic 112, 3) := by decide +kernel
theorem dX12_act_23 : decode cX12_act 23 = .ok (.ifCond .ne 6, 3) := by decide +kernel
theorem dX12_act_26 : decode cX12_act 26 = .ok (.bipush (-102), 2) := by decide +kernel
theorem dX12_act_28 : decode cX12_act 28 = .ok (.ireturn, 1) := by decide +kernel
theorem dX12_act_29 : decode cX12_act 29 = .ok (.aload_n 0, 1) := by decide +kernel
theorem dX12_act_30 : decode cX12_act 30 = .ok (.getfield 42, 3) := by decide +kernel
theorem dX12_act_33 : decode cX12_act 33 = .ok (.iload_n 1, 1) := by decide +kernel
theorem dX12_act_34 : decode cX12_act 34 = .ok (.iaload, 1) := by decide +kernel
theorem dX12_act_35 : decode cX12_act 35 = .ok (.istore_n 3, 1) := by decide +kernel
theorem dX12_act_36 : decode cX12_act 36 = .ok (.aload_n 0, 1) := by decide +kernel
theorem dX12_act_37 : decode cX12_act 37 = .ok (.getfield 42, 3) := by decide +kernel
theorem dX12_act_40 : decode cX12_act 40 = .ok (.iload_n 1, 1) := by decide +kernel
theorem dX12_act_41 : decode cX12_act 41 = .ok (.iload_n 2, 1) := by decide +kernel
theorem dX12_act_42 : decode cX12_act 42 = .ok (.iastore, 1) := by decide +kernel
theorem dX12_act_43 : decode cX12_act 43 = .ok (.aload_n 0, 1) := by decide +kernel
theorem dX12_act_44 : decode cX12_act 44 = .ok (.iconst 0, 1) := by decide +kernel
theorem dX12_act_45 : decode cX12_act 45 = .ok (.putfield 128, 3) := by decide +kernel
theorem dX12_act_48 : decode cX12_act 48 = .ok (.iload_n 3, 1) := by decide +kernel
theorem dX12_act_49 : decode cX12_act 49 = .ok (.ireturn, 1) := by decide +kernel
theorem dX12_fold_0 : decode cX12_fold 0 = .ok (.iload_n 1, 1) := by decide +kernel
theorem dX12_fold_1 : decode cX12_fold 1 = .ok (.iconst 0, 1) := by decide +kernel
theorem dX12_fold_2 : decode cX12_fold 2 = .ok (.iconst 3, 1) := by decide +kernel
theorem dX12_fold_3 : decode cX12_fold 3 = .ok (.invokestatic 112, 3) := by decide +kernel
theorem dX12_fold_6 : decode cX12_fold 6 = .ok (.ifCond .ne 6, 3) := by decide +kernel
theorem dX12_fold_9 : decode cX12_fold 9 = .ok (.bipush (-102), 2) := by decide +kernel
theorem dX12_fold_11 : decode cX12_fold 11 = .ok (.ireturn, 1) := by decide +kernel
theorem dX12_fold_12 : decode cX12_fold 12 = .ok (.aload_n 0, 1) := by decide +kernel
theorem dX12_fold_13 : decode cX12_fold 13 = .ok (.getfield 134, 3) := by decide +kernel
theorem dX12_fold_16 : decode cX12_fold 16 = .ok (.istore_n 2, 1) := by decide +kernel
theorem dX12_fold_17 : decode cX12_fold 17 = .ok (.aload_n 0, 1) := by decide +kernel
theorem dX12_fold_18 : decode cX12_fold 18 = .ok (.iload_n 1, 1) := by decide +kernel
theorem dX12_fold_19 : decode cX12_fold 19 = .ok (.putfield 134, 3) := by decide +kernel
theorem dX12_fold_22 : decode cX12_fold 22 = .ok (.aload_n 0, 1) := by decide +kernel
theorem dX12_fold_23 : decode cX12_fold 23 = .ok (.iconst 0, 1) := by decide +kernel
theorem dX12_fold_24 : decode cX12_fold 24 = .ok (.putfield 128, 3) := by decide +kernel
theorem dX12_fold_27 : decode cX12_fold 27 = .ok (.iload_n 2, 1) := by decide +kernel
theorem dX12_fold_28 : decode cX12_fold 28 = .ok (.ireturn, 1) := by decide +kernel
def rm_rX12_in : Room := { frames := 0, cells := 0, slots := 0, locals := 0 }
def G_rX12_in (p : Program) (l : Launch) (e : Env) (s : State) (m : MethodId) (args : Array Value) (below : List Frame) (meth : Method) (c : Code) (dC : Nat → ClassId) (dI : Nat → Nat → Nat) (kA : Nat → ClassId) (ad : Nat → Nat) (res : Int32 × RS) (F : RS → Int32 → Int32 → Int32 → Option (Int32 × RS)) : Prop := ∀ (σ : RS) (x0 : Int32) (x1 : Int32) (x2 : Int32), F σ x0 x1 x2 = some res → ∀ (H : Heap) (locs : List Loc) (ls : Array Slot), va_P (dC, dI) vwCl (r_w kA ad σ) H → va_S (jw_A 32 ad) s.heap H locs → lv_has ls 3 [(0, .int x0), (1, .int x1), (2, .int x2)] → W p l e rm_rX12_in s m args below meth c H locs 0 0 (r_Qi below dC dI kA ad args s res) (F0 m 0 ls [])
def s_rX12_in (σ : RS) (x0 : Int32) (x1 : Int32) (x2 : Int32) : Option (Int32 × RS) := if x0 < x1 then (some (0, σ)) else (if x2 < x0 then (some (0, σ)) else (some (1, σ)))
set_option maxRecDepth 100000 in
set_option maxHeartbeats 4000000 in
theorem p_rX12_in {p : Program} {l : Launch} {e : Env} {s : State} {m : MethodId} {args : Array Value} {below : List Frame} {meth : Method} {c : Code} {dC : Nat → ClassId} {dI : Nat → Nat → Nat} {kA : Nat → ClassId} {ad : Nat → Nat} (C : jxc cX12_in (some .boolean) 3 RX12 p s m args meth c dC dI kA) (hap : jw_ap 32 ad) {res : Int32 × RS} : G_rX12_in p l e s m args below meth c dC dI kA ad res (s_rX12_in) := by
  obtain ⟨hx, hb, hml, hown, hts, hr, hlocks, hK, hN⟩ := id C
  intro σ x0 x1 x2 hf H locs ls hP hS hl
  unfold s_rX12_in at hf
  refine lv_iload_n hx hb dX12_in_0 rfl (lv_at hl 0 rfl) ?_
  refine lv_iload_n hx hb dX12_in_1 rfl (lv_at hl 1 rfl) ?_
  refine jc_lt (tgt := 14) hx hb hf dX12_in_2 (by decide) (fun hf => ?_) (fun hf => ?_)
  · refine lv_iconst (v := 0) hx hb dX12_in_14 (by decide) ?_
    exact jr_i hx hb hr hlocks hf (by decide) hP hS dX12_in_15
  · refine lv_iload_n hx hb dX12_in_5 rfl (lv_at hl 0 rfl) ?_
    refine lv_iload_n hx hb dX12_in_6 rfl (lv_at hl 2 rfl) ?_
    refine jc_gt (tgt := 14) hx hb hf dX12_in_7 (by decide) (fun hf => ?_) (fun hf => ?_)
    · refine lv_iconst (v := 0) hx hb dX12_in_14 (by decide) ?_
      exact jr_i hx hb hr hlocks hf (by decide) hP hS dX12_in_15
    · refine lv_iconst (v := 1) hx hb dX12_in_10 (by decide) ?_
      refine lv_goto (tgt := 15) hx hb dX12_in_11 (by decide) ?_
      exact jr_i hx hb hr hlocks hf (by decide) hP hS dX12_in_15
theorem c_rX12_in (l : Launch) {dC : Nat → ClassId} {dI : Nat → Nat → Nat} {kA : Nat → ClassId} {ad : Nat → Nat} (hap : jw_ap 32 ad) (σ : RS) (x0 : Int32) (x1 : Int32) (x2 : Int32) (res : Int32 × RS) (hf : s_rX12_in σ x0 x1 x2 = some res) : jm_i l KW NW (dC, dI) vwCl (jtys kA) (jw_A 32 ad) (r_w kA ad) yX12_in cX12_in 3 .boolean (rm_rX12_in) [.int x0, .int x1, .int x2] σ res := jm_i_of (by decide) (Nat.le_of_ble_eq_true rfl) (fun p e s m below meth c C hP hS ls hl => p_rX12_in C hap σ x0 x1 x2 hf s.heap [] ls hP hS hl)

def rm_rX12_isTerm : Room := { frames := 1, cells := 0, slots := 0, locals := 22 }
def G_rX12_isTerm (p : Program) (l : Launch) (e : Env) (s : State) (m : MethodId) (args : Array Value) (below : List Frame) (meth : Method) (c : Code) (dC : Nat → ClassId) (dI : Nat → Nat → Nat) (kA : Nat → ClassId) (ad : Nat → Nat) (res : Int32 × RS) (F : RS → Int32 → Option (Int32 × RS)) : Prop := ∀ (σ : RS) (x1 : Int32), F σ x1 = some res → ∀ (H : Heap) (locs : List Loc) (ls : Array Slot), va_P (dC, dI) vwCl (r_w kA ad σ) H → va_S (jw_A 32 ad) s.heap H locs → lv_has ls 2 [(0, .ref (ad 0)), (1, .int x1)] → W p l e rm_rX12_isTerm s m args below meth c H locs 0 0 (r_Qi below dC dI kA ad args s res) (F0 m 0 ls [])
def s_rX12_isTerm (σ : RS) (x1 : Int32) : Option (Int32 × RS) := kn_i (s_rX12_in σ x1 0 ((rg_I σ 0) - 1)) (fun v1 σ2 => kn_z v1 (some (v1, σ2)))
set_option maxRecDepth 100000 in
set_option maxHeartbeats 4000000 in
theorem p_rX12_isTerm {p : Program} {l : Launch} {e : Env} {s : State} {m : MethodId} {args : Array Value} {below : List Frame} {meth : Method} {c : Code} {dC : Nat → ClassId} {dI : Nat → Nat → Nat} {kA : Nat → ClassId} {ad : Nat → Nat} (C : jxc cX12_isTerm (some .boolean) 2 RX12 p s m args meth c dC dI kA) (hap : jw_ap 32 ad) {res : Int32 × RS} : G_rX12_isTerm p l e s m args below meth c dC dI kA ad res (s_rX12_isTerm) := by
  obtain ⟨hx, hb, hml, hown, hts, hr, hlocks, hK, hN⟩ := id C
  intro σ x1 hf H locs ls hP hS hl
  unfold s_rX12_isTerm at hf
  refine lv_iload_n hx hb dX12_isTerm_0 rfl (lv_at hl 1 rfl) ?_
  refine lv_iconst (v := 0) hx hb dX12_isTerm_1 (by decide) ?_
  refine lv_aload_n hx hb dX12_isTerm_2 rfl (lv_at hl 0 rfl) ?_
  refine r_gX12_terms hx hb hts hown hK hP (hts _ kw_759) dX12_isTerm_3 ?_
  refine lv_iconst (v := 1) hx hb dX12_isTerm_6 (by decide) ?_
  refine lv_isub hx hb dX12_isTerm_7 ?_
  refine jk_i hf (fun res hres => js_run hx hb hml hown hts hK hN r_hG r_hNW hl.1 (n := 3) (As := [.int x1, .int 0, .int ((rg_I σ 0) - 1)]) (rest := []) (c_rX12_in l hap σ x1 0 ((rg_I σ 0) - 1) res hres) hP kw_925 kw_923 kw_924 kw_64 ⟨rfl, rfl⟩ (by decide +kernel) rfl ⟨Nat.le_of_ble_eq_true rfl, Nat.le_of_ble_eq_true rfl⟩ rfl (Nat.le_of_ble_eq_true rfl) dX12_isTerm_8) hS (fun v1 σ2 H locs hP hS hf => ?_)
  exact jr_z hx hb hr hlocks hf hP hS dX12_isTerm_11
theorem c_rX12_isTerm (l : Launch) {dC : Nat → ClassId} {dI : Nat → Nat → Nat} {kA : Nat → ClassId} {ad : Nat → Nat} (hap : jw_ap 32 ad) (σ : RS) (x1 : Int32) (res : Int32 × RS) (hf : s_rX12_isTerm σ x1 = some res) : jm_i l KW NW (dC, dI) vwCl (jtys kA) (jw_A 32 ad) (r_w kA ad) yX12_isTerm cX12_isTerm 2 .boolean (rm_rX12_isTerm) [.ref (ad 0), .int x1] σ res := jm_i_of (by decide) (Nat.le_of_ble_eq_true rfl) (fun p e s m below meth c C hP hS ls hl => p_rX12_isTerm C hap σ x1 hf s.heap [] ls hP hS hl)

def rm_rX12_isNode : Room := { frames := 1, cells := 0, slots := 0, locals := 22 }
def G_rX12_isNode (p : Program) (l : Launch) (e : Env) (s : State) (m : MethodId) (args : Array Value) (below : List Frame) (meth : Method) (c : Code) (dC : Nat → ClassId) (dI : Nat → Nat → Nat) (kA : Nat → ClassId) (ad : Nat → Nat) (res : Int32 × RS) (F : RS → Int32 → Option (Int32 × RS)) : Prop := ∀ (σ : RS) (x1 : Int32), F σ x1 = some res → ∀ (H : Heap) (locs : List Loc) (ls : Array Slot), va_P (dC, dI) vwCl (r_w kA ad σ) H → va_S (jw_A 32 ad) s.heap H locs → lv_has ls 2 [(0, .ref (ad 0)), (1, .int x1)] → W p l e rm_rX12_isNode s m args below meth c H locs 0 0 (r_Qi below dC dI kA ad args s res) (F0 m 0 ls [])
def s_rX12_isNode (σ : RS) (x1 : Int32) : Option (Int32 × RS) := kn_i (s_rX12_in σ x1 0 ((rg_I σ 1) - 1)) (fun v1 σ2 => kn_z v1 (some (v1, σ2)))
set_option maxRecDepth 100000 in
set_option maxHeartbeats 4000000 in
theorem p_rX12_isNode {p : Program} {l : Launch} {e : Env} {s : State} {m : MethodId} {args : Array Value} {below : List Frame} {meth : Method} {c : Code} {dC : Nat → ClassId} {dI : Nat → Nat → Nat} {kA : Nat → ClassId} {ad : Nat → Nat} (C : jxc cX12_isNode (some .boolean) 2 RX12 p s m args meth c dC dI kA) (hap : jw_ap 32 ad) {res : Int32 × RS} : G_rX12_isNode p l e s m args below meth c dC dI kA ad res (s_rX12_isNode) := by
  obtain ⟨hx, hb, hml, hown, hts, hr, hlocks, hK, hN⟩ := id C
  intro σ x1 hf H locs ls hP hS hl
  unfold s_rX12_isNode at hf
  refine lv_iload_n hx hb dX12_isNode_0 rfl (lv_at hl 1 rfl) ?_
  refine lv_iconst (v := 0) hx hb dX12_isNode_1 (by decide) ?_
  refine lv_aload_n hx hb dX12_isNode_2 rfl (lv_at hl 0 rfl) ?_
  refine r_gX12_nodes hx hb hts hown hK hP (hts _ kw_765) dX12_isNode_3 ?_
  refine lv_iconst (v := 1) hx hb dX12_isNode_6 (by decide) ?_
  refine lv_isub hx hb dX12_isNode_7 ?_
  refine jk_i hf (fun res hres => js_run hx hb hml hown hts hK hN r_hG r_hNW hl.1 (n := 3) (As := [.int x1, .int 0, .int ((rg_I σ 1) - 1)]) (rest := []) (c_rX12_in l hap σ x1 0 ((rg_I σ 1) - 1) res hres) hP kw_925 kw_923 kw_924 kw_64 ⟨rfl, rfl⟩ (by decide +kernel) rfl ⟨Nat.le_of_ble_eq_true rfl, Nat.le_of_ble_eq_true rfl⟩ rfl (Nat.le_of_ble_eq_true rfl) dX12_isNode_8) hS (fun v1 σ2 H locs hP hS hf => ?_)
  exact jr_z hx hb hr hlocks hf hP hS dX12_isNode_11
theorem c_rX12_isNode (l : Launch) {dC : Nat → ClassId} {dI : Nat → Nat → Nat} {kA : Nat → ClassId} {ad : Nat → Nat} (hap : jw_ap 32 ad) (σ : RS) (x1 : Int32) (res : Int32 × RS) (hf : s_rX12_isNode σ x1 = some res) : jm_i l KW NW (dC, dI) vwCl (jtys kA) (jw_A 32 ad) (r_w kA ad) yX12_isNode cX12_isNode 2 .boolean (rm_rX12_isNode) [.ref (ad 0), .int x1] σ res := jm_i_of (by decide) (Nat.le_of_ble_eq_true rfl) (fun p e s m below meth c C hP hS ls hl => p_rX12_isNode C hap σ x1 hf s.heap [] ls hP hS hl)

def rm_rX12_isArc : Room := { frames := 1, cells := 0, slots := 0, locals := 22 }
def G_rX12_isArc (p : Program) (l : Launch) (e : Env) (s : State) (m : MethodId) (args : Array Value) (below : List Frame) (meth : Method) (c : Code) (dC : Nat → ClassId) (dI : Nat → Nat → Nat) (kA : Nat → ClassId) (ad : Nat → Nat) (res : Int32 × RS) (F : RS → Int32 → Option (Int32 × RS)) : Prop := ∀ (σ : RS) (x1 : Int32), F σ x1 = some res → ∀ (H : Heap) (locs : List Loc) (ls : Array Slot), va_P (dC, dI) vwCl (r_w kA ad σ) H → va_S (jw_A 32 ad) s.heap H locs → lv_has ls 2 [(0, .ref (ad 0)), (1, .int x1)] → W p l e rm_rX12_isArc s m args below meth c H locs 0 0 (r_Qi below dC dI kA ad args s res) (F0 m 0 ls [])
def s_rX12_isArc (σ : RS) (x1 : Int32) : Option (Int32 × RS) := kn_i (s_rX12_in σ x1 0 ((rg_I σ 2) - 1)) (fun v1 σ2 => kn_z v1 (some (v1, σ2)))
set_option maxRecDepth 100000 in
set_option maxHeartbeats 4000000 in
theorem p_rX12_isArc {p : Program} {l : Launch} {e : Env} {s : State} {m : MethodId} {args : Array Value} {below : List Frame} {meth : Method} {c : Code} {dC : Nat → ClassId} {dI : Nat → Nat → Nat} {kA : Nat → ClassId} {ad : Nat → Nat} (C : jxc cX12_isArc (some .boolean) 2 RX12 p s m args meth c dC dI kA) (hap : jw_ap 32 ad) {res : Int32 × RS} : G_rX12_isArc p l e s m args below meth c dC dI kA ad res (s_rX12_isArc) := by
  obtain ⟨hx, hb, hml, hown, hts, hr, hlocks, hK, hN⟩ := id C
  intro σ x1 hf H locs ls hP hS hl
  unfold s_rX12_isArc at hf
  refine lv_iload_n hx hb dX12_isArc_0 rfl (lv_at hl 1 rfl) ?_
  refine lv_iconst (v := 0) hx hb dX12_isArc_1 (by decide) ?_
  refine lv_aload_n hx hb dX12_isArc_2 rfl (lv_at hl 0 rfl) ?_
  refine r_gX12_arcs hx hb hts hown hK hP (hts _ kw_768) dX12_isArc_3 ?_
  refine lv_iconst (v := 1) hx hb dX12_isArc_6 (by decide) ?_
  refine lv_isub hx hb dX12_isArc_7 ?_
  refine jk_i hf (fun res hres => js_run hx hb hml hown hts hK hN r_hG r_hNW hl.1 (n := 3) (As := [.int x1, .int 0, .int ((rg_I σ 2) - 1)]) (rest := []) (c_rX12_in l hap σ x1 0 ((rg_I σ 2) - 1) res hres) hP kw_925 kw_923 kw_924 kw_64 ⟨rfl, rfl⟩ (by decide +kernel) rfl ⟨Nat.le_of_ble_eq_true rfl, Nat.le_of_ble_eq_true rfl⟩ rfl (Nat.le_of_ble_eq_true rfl) dX12_isArc_8) hS (fun v1 σ2 H locs hP hS hf => ?_)
  exact jr_z hx hb hr hlocks hf hP hS dX12_isArc_11
theorem c_rX12_isArc (l : Launch) {dC : Nat → ClassId} {dI : Nat → Nat → Nat} {kA : Nat → ClassId} {ad : Nat → Nat} (hap : jw_ap 32 ad) (σ : RS) (x1 : Int32) (res : Int32 × RS) (hf : s_rX12_isArc σ x1 = some res) : jm_i l KW NW (dC, dI) vwCl (jtys kA) (jw_A 32 ad) (r_w kA ad) yX12_isArc cX12_isArc 2 .boolean (rm_rX12_isArc) [.ref (ad 0), .int x1] σ res := jm_i_of (by decide) (Nat.le_of_ble_eq_true rfl) (fun p e s m below meth c C hP hS ls hl => p_rX12_isArc C hap σ x1 hf s.heap [] ls hP hS hl)

def rm_rX12_term : Room := { frames := 2, cells := 0, slots := 0, locals := 43 }
def G_rX12_term_b89 (p : Program) (l : Launch) (e : Env) (s : State) (m : MethodId) (args : Array Value) (below : List Frame) (meth : Method) (c : Code) (dC : Nat → ClassId) (dI : Nat → Nat → Nat) (kA : Nat → ClassId) (ad : Nat → Nat) (res : Int32 × RS) (F : RS → Int32 → Int32 → Int32 → Int32 → Int64 → Option (Int32 × RS)) : Prop := ∀ (σ : RS) (x1 : Int32) (x2 : Int32) (x3 : Int32) (x4 : Int32) (x5 : Int64), F σ x1 x2 x3 x4 x5 = some res → ∀ (H : Heap) (locs : List Loc) (ls : Array Slot), va_P (dC, dI) vwCl (r_w kA ad σ) H → va_S (jw_A 32 ad) s.heap H locs → lv_has ls 7 [(0, .ref (ad 0)), (1, .int x1), (2, .int x2), (3, .int x3), (4, .int x4), (5, .long x5)] → W p l e rm_rX12_term s m args below meth c H locs 0 0 (r_Qi below dC dI kA ad args s res) (F0 m 89 ls [])
def G_rX12_term_b65 (p : Program) (l : Launch) (e : Env) (s : State) (m : MethodId) (args : Array Value) (below : List Frame) (meth : Method) (c : Code) (dC : Nat → ClassId) (dI : Nat → Nat → Nat) (kA : Nat → ClassId) (ad : Nat → Nat) (res : Int32 × RS) (F : RS → Int32 → Int32 → Int32 → Int32 → Int64 → Option (Int32 × RS)) : Prop := ∀ (σ : RS) (x1 : Int32) (x2 : Int32) (x3 : Int32) (x4 : Int32) (x5 : Int64), F σ x1 x2 x3 x4 x5 = some res → ∀ (H : Heap) (locs : List Loc) (ls : Array Slot), va_P (dC, dI) vwCl (r_w kA ad σ) H → va_S (jw_A 32 ad) s.heap H locs → lv_has ls 7 [(0, .ref (ad 0)), (1, .int x1), (2, .int x2), (3, .int x3), (4, .int x4), (5, .long x5)] → W p l e rm_rX12_term s m args below meth c H locs 0 0 (r_Qi below dC dI kA ad args s res) (F0 m 65 ls [])
def G_rX12_term_b47 (p : Program) (l : Launch) (e : Env) (s : State) (m : MethodId) (args : Array Value) (below : List Frame) (meth : Method) (c : Code) (dC : Nat → ClassId) (dI : Nat → Nat → Nat) (kA : Nat → ClassId) (ad : Nat → Nat) (res : Int32 × RS) (F : RS → Int32 → Int32 → Int32 → Int32 → Int64 → Option (Int32 × RS)) : Prop := ∀ (σ : RS) (x1 : Int32) (x2 : Int32) (x3 : Int32) (x4 : Int32) (x5 : Int64), F σ x1 x2 x3 x4 x5 = some res → ∀ (H : Heap) (locs : List Loc) (ls : Array Slot), va_P (dC, dI) vwCl (r_w kA ad σ) H → va_S (jw_A 32 ad) s.heap H locs → lv_has ls 7 [(0, .ref (ad 0)), (1, .int x1), (2, .int x2), (3, .int x3), (4, .int x4), (5, .long x5)] → W p l e rm_rX12_term s m args below meth c H locs 0 0 (r_Qi below dC dI kA ad args s res) (F0 m 47 ls [])
def G_rX12_term_b27 (p : Program) (l : Launch) (e : Env) (s : State) (m : MethodId) (args : Array Value) (below : List Frame) (meth : Method) (c : Code) (dC : Nat → ClassId) (dI : Nat → Nat → Nat) (kA : Nat → ClassId) (ad : Nat → Nat) (res : Int32 × RS) (F : RS → Int32 → Int32 → Int32 → Int32 → Int64 → Option (Int32 × RS)) : Prop := ∀ (σ : RS) (x1 : Int32) (x2 : Int32) (x3 : Int32) (x4 : Int32) (x5 : Int64), F σ x1 x2 x3 x4 x5 = some res → ∀ (H : Heap) (locs : List Loc) (ls : Array Slot), va_P (dC, dI) vwCl (r_w kA ad σ) H → va_S (jw_A 32 ad) s.heap H locs → lv_has ls 7 [(0, .ref (ad 0)), (1, .int x1), (2, .int x2), (3, .int x3), (4, .int x4), (5, .long x5)] → W p l e rm_rX12_term s m args below meth c H locs 0 0 (r_Qi below dC dI kA ad args s res) (F0 m 27 ls [])
def G_rX12_term (p : Program) (l : Launch) (e : Env) (s : State) (m : MethodId) (args : Array Value) (below : List Frame) (meth : Method) (c : Code) (dC : Nat → ClassId) (dI : Nat → Nat → Nat) (kA : Nat → ClassId) (ad : Nat → Nat) (res : Int32 × RS) (F : RS → Int32 → Int32 → Int32 → Int32 → Int64 → Option (Int32 × RS)) : Prop := ∀ (σ : RS) (x1 : Int32) (x2 : Int32) (x3 : Int32) (x4 : Int32) (x5 : Int64), F σ x1 x2 x3 x4 x5 = some res → ∀ (H : Heap) (locs : List Loc) (ls : Array Slot), va_P (dC, dI) vwCl (r_w kA ad σ) H → va_S (jw_A 32 ad) s.heap H locs → lv_has ls 7 [(0, .ref (ad 0)), (1, .int x1), (2, .int x2), (3, .int x3), (4, .int x4), (5, .long x5)] → W p l e rm_rX12_term s m args below meth c H locs 0 0 (r_Qi below dC dI kA ad args s res) (F0 m 0 ls [])
def s_rX12_term_b89 (σ : RS) (x1 : Int32) (x2 : Int32) (x3 : Int32) (x4 : Int32) (x5 : Int64) : Option (Int32 × RS) := if (rg_I σ 0) = 40 then (some ((-103), σ)) else (kn_st (rs_A σ 0 (upd (rg_A σ 0) (rg_I σ 0).toNatClampNeg x1)) 40 (rg_I σ 0) (fun σ1 => kn_st (rs_A σ1 1 (upd (rg_A σ1 1) (rg_I σ1 0).toNatClampNeg x2)) 40 (rg_I σ1 0) (fun σ2 => kn_st (rs_A σ2 2 (upd (rg_A σ2 2) (rg_I σ2 0).toNatClampNeg x3)) 40 (rg_I σ2 0) (fun σ3 => kn_st (rs_A σ3 3 (upd (rg_A σ3 3) (rg_I σ3 0).toNatClampNeg x4)) 40 (rg_I σ3 0) (fun σ4 => kn_st (rs_B σ4 0 (vp_updL (rg_B σ4 0) (rg_I σ4 0).toNatClampNeg x5)) 40 (rg_I σ4 0) (fun σ5 => kn_v (rs_I σ5 0 ((rg_I σ5 0) + 1)) (fun σ6 => some ((rg_I σ6 0) - 1, σ6))))))))
set_option maxRecDepth 100000 in
set_option maxHeartbeats 4000000 in
theorem p_rX12_term_b89 {p : Program} {l : Launch} {e : Env} {s : State} {m : MethodId} {args : Array Value} {below : List Frame} {meth : Method} {c : Code} {dC : Nat → ClassId} {dI : Nat → Nat → Nat} {kA : Nat → ClassId} {ad : Nat → Nat} (C : jxc cX12_term (some .int) 7 RX12 p s m args meth c dC dI kA) (hap : jw_ap 32 ad) {res : Int32 × RS} : G_rX12_term_b89 p l e s m args below meth c dC dI kA ad res (s_rX12_term_b89) := by
  obtain ⟨hx, hb, hml, hown, hts, hr, hlocks, hK, hN⟩ := id C
  intro σ x1 x2 x3 x4 x5 hf H locs ls hP hS hl
  unfold s_rX12_term_b89 at hf
  refine lv_aload_n hx hb dX12_term_89 rfl (lv_at hl 0 rfl) ?_
  refine r_gX12_terms hx hb hts hown hK hP (hts _ kw_759) dX12_term_90 ?_
  refine lv_bipush (v := 40) hx hb dX12_term_93 (by decide) ?_
  refine jc_ne (tgt := 101) hx hb hf dX12_term_95 (by decide) (fun hf => ?_) (fun hf => ?_)
  · refine lv_aload_n hx hb dX12_term_101 rfl (lv_at hl 0 rfl) ?_
    refine r_gX12_kinds hx hb hts hown hK hP (hts _ kw_760) dX12_term_102 ?_
    refine lv_aload_n hx hb dX12_term_105 rfl (lv_at hl 0 rfl) ?_
    refine r_gX12_terms hx hb hts hown hK hP (hts _ kw_759) dX12_term_106 ?_
    refine lv_iload_n hx hb dX12_term_109 rfl (lv_at hl 1 rfl) ?_
    refine ja_ist hx hb hK (r_D hap σ) hP hS 1 0 rfl rfl r_sA0 hf dX12_term_110 (fun σ1 H locs hP hS hf => ?_)
    refine lv_aload_n hx hb dX12_term_111 rfl (lv_at hl 0 rfl) ?_
    refine r_gX12_partA hx hb hts hown hK hP (hts _ kw_761) dX12_term_112 ?_
    refine lv_aload_n hx hb dX12_term_115 rfl (lv_at hl 0 rfl) ?_
    refine r_gX12_terms hx hb hts hown hK hP (hts _ kw_759) dX12_term_116 ?_
    refine lv_iload_n hx hb dX12_term_119 rfl (lv_at hl 2 rfl) ?_
    refine ja_ist hx hb hK (r_D hap σ1) hP hS 2 0 rfl rfl r_sA1 hf dX12_term_120 (fun σ2 H locs hP hS hf => ?_)
    refine lv_aload_n hx hb dX12_term_121 rfl (lv_at hl 0 rfl) ?_
    refine r_gX12_partB hx hb hts hown hK hP (hts _ kw_762) dX12_term_122 ?_
    refine lv_aload_n hx hb dX12_term_125 rfl (lv_at hl 0 rfl) ?_
    refine r_gX12_terms hx hb hts hown hK hP (hts _ kw_759) dX12_term_126 ?_
    refine lv_iload_n hx hb dX12_term_129 rfl (lv_at hl 3 rfl) ?_
    refine ja_ist hx hb hK (r_D hap σ2) hP hS 3 0 rfl rfl r_sA2 hf dX12_term_130 (fun σ3 H locs hP hS hf => ?_)
    refine lv_aload_n hx hb dX12_term_131 rfl (lv_at hl 0 rfl) ?_
    refine r_gX12_partC hx hb hts hown hK hP (hts _ kw_763) dX12_term_132 ?_
    refine lv_aload_n hx hb dX12_term_135 rfl (lv_at hl 0 rfl) ?_
    refine r_gX12_terms hx hb hts hown hK hP (hts _ kw_759) dX12_term_136 ?_
    refine lv_iload hx hb dX12_term_139 (lv_at hl 4 rfl) ?_
    refine ja_ist hx hb hK (r_D hap σ3) hP hS 4 0 rfl rfl r_sA3 hf dX12_term_141 (fun σ4 H locs hP hS hf => ?_)
    refine lv_aload_n hx hb dX12_term_142 rfl (lv_at hl 0 rfl) ?_
    refine r_gX12_numbers hx hb hts hown hK hP (hts _ kw_764) dX12_term_143 ?_
    refine lv_aload_n hx hb dX12_term_146 rfl (lv_at hl 0 rfl) ?_
    refine r_gX12_terms hx hb hts hown hK hP (hts _ kw_759) dX12_term_147 ?_
    refine lv_lload hx hb dX12_term_150 (lv_at hl 5 rfl) ?_
    refine ja_lst hx hb hK (r_D hap σ4) hP hS 5 1 rfl rfl r_sB0 hf dX12_term_152 (fun σ5 H locs hP hS hf => ?_)
    refine lv_aload_n hx hb dX12_term_153 rfl (lv_at hl 0 rfl) ?_
    refine lv_dup hx hb dX12_term_154 rfl ?_
    refine r_gX12_terms hx hb hts hown hK hP (hts _ kw_759) dX12_term_155 ?_
    refine lv_iconst (v := 1) hx hb dX12_term_158 (by decide) ?_
    refine lv_iadd hx hb dX12_term_159 ?_
    refine r_pX12_terms hx hb hts hown hK hap hP hS hf (hts _ kw_759) dX12_term_160 (fun σ6 H locs hP hS hf => ?_)
    refine lv_aload_n hx hb dX12_term_163 rfl (lv_at hl 0 rfl) ?_
    refine r_gX12_terms hx hb hts hown hK hP (hts _ kw_759) dX12_term_164 ?_
    refine lv_iconst (v := 1) hx hb dX12_term_167 (by decide) ?_
    refine lv_isub hx hb dX12_term_168 ?_
    exact jr_i hx hb hr hlocks hf rfl hP hS dX12_term_169
  · refine lv_bipush (v := (-103)) hx hb dX12_term_98 (by decide) ?_
    exact jr_i hx hb hr hlocks hf rfl hP hS dX12_term_100
def s_rX12_term_b65 (σ : RS) (x1 : Int32) (x2 : Int32) (x3 : Int32) (x4 : Int32) (x5 : Int64) : Option (Int32 × RS) := if x1 = 1 then (if x5 < 0 then (some ((-102), σ)) else (if x5 ≤ 2 then (s_rX12_term_b89 σ x1 x2 x3 x4 x5) else (some ((-102), σ)))) else (s_rX12_term_b89 σ x1 x2 x3 x4 x5)
set_option maxRecDepth 100000 in
set_option maxHeartbeats 4000000 in
theorem p_rX12_term_b65 {p : Program} {l : Launch} {e : Env} {s : State} {m : MethodId} {args : Array Value} {below : List Frame} {meth : Method} {c : Code} {dC : Nat → ClassId} {dI : Nat → Nat → Nat} {kA : Nat → ClassId} {ad : Nat → Nat} (C : jxc cX12_term (some .int) 7 RX12 p s m args meth c dC dI kA) (hap : jw_ap 32 ad) {res : Int32 × RS} : G_rX12_term_b65 p l e s m args below meth c dC dI kA ad res (s_rX12_term_b65) := by
  obtain ⟨hx, hb, hml, hown, hts, hr, hlocks, hK, hN⟩ := id C
  intro σ x1 x2 x3 x4 x5 hf H locs ls hP hS hl
  unfold s_rX12_term_b65 at hf
  refine lv_iload_n hx hb dX12_term_65 rfl (lv_at hl 1 rfl) ?_
  refine lv_iconst (v := 1) hx hb dX12_term_66 (by decide) ?_
  refine jc_ne (tgt := 89) hx hb hf dX12_term_67 (by decide) (fun hf => ?_) (fun hf => ?_)
  · exact (p_rX12_term_b89 C hap) σ x1 x2 x3 x4 x5 hf H locs ls hP hS (lv_sub hl [0, 1, 2, 3, 4, 5] rfl)
  · refine lv_lload hx hb dX12_term_70 (lv_at hl 5 rfl) ?_
    refine lv_lconst (v := 0) hx hb dX12_term_72 (by decide) ?_
    refine jl_lt (tgt := 86) hx hb hf dX12_term_73 dX12_term_74 (by decide) (fun hf => ?_) (fun hf => ?_)
    · refine lv_bipush (v := (-102)) hx hb dX12_term_86 (by decide) ?_
      exact jr_i hx hb hr hlocks hf rfl hP hS dX12_term_88
    · refine lv_lload hx hb dX12_term_77 (lv_at hl 5 rfl) ?_
      refine lv_ldc2 (v := 2) hx hb hown (hts _ kw_930) dX12_term_79 ?_
      refine jl_le (tgt := 89) hx hb hf dX12_term_82 dX12_term_83 (by decide) (fun hf => ?_) (fun hf => ?_)
      · exact (p_rX12_term_b89 C hap) σ x1 x2 x3 x4 x5 hf H locs ls hP hS (lv_sub hl [0, 1, 2, 3, 4, 5] rfl)
      · refine lv_bipush (v := (-102)) hx hb dX12_term_86 (by decide) ?_
        exact jr_i hx hb hr hlocks hf rfl hP hS dX12_term_88
def s_rX12_term_b47 (σ : RS) (x1 : Int32) (x2 : Int32) (x3 : Int32) (x4 : Int32) (x5 : Int64) : Option (Int32 × RS) := if x1 = 16 then (kn_i (s_rX12_isTerm σ x4) (fun v1 σ2 => if v1 = 0 then (some ((-101), σ2)) else (s_rX12_term_b65 σ2 x1 x2 x3 x4 x5))) else (s_rX12_term_b65 σ x1 x2 x3 x4 x5)
set_option maxRecDepth 100000 in
set_option maxHeartbeats 4000000 in
theorem p_rX12_term_b47 {p : Program} {l : Launch} {e : Env} {s : State} {m : MethodId} {args : Array Value} {below : List Frame} {meth : Method} {c : Code} {dC : Nat → ClassId} {dI : Nat → Nat → Nat} {kA : Nat → ClassId} {ad : Nat → Nat} (C : jxc cX12_term (some .int) 7 RX12 p s m args meth c dC dI kA) (hap : jw_ap 32 ad) {res : Int32 × RS} : G_rX12_term_b47 p l e s m args below meth c dC dI kA ad res (s_rX12_term_b47) := by
  obtain ⟨hx, hb, hml, hown, hts, hr, hlocks, hK, hN⟩ := id C
  intro σ x1 x2 x3 x4 x5 hf H locs ls hP hS hl
  unfold s_rX12_term_b47 at hf
  refine lv_iload_n hx hb dX12_term_47 rfl (lv_at hl 1 rfl) ?_
  refine lv_bipush (v := 16) hx hb dX12_term_48 (by decide) ?_
  refine jc_ne (tgt := 65) hx hb hf dX12_term_50 (by decide) (fun hf => ?_) (fun hf => ?_)
  · exact (p_rX12_term_b65 C hap) σ x1 x2 x3 x4 x5 hf H locs ls hP hS (lv_sub hl [0, 1, 2, 3, 4, 5] rfl)
  · refine lv_aload_n hx hb dX12_term_53 rfl (lv_at hl 0 rfl) ?_
    refine lv_iload hx hb dX12_term_54 (lv_at hl 4 rfl) ?_
    refine jk_i hf (fun res hres => jv_run hx hb hml hown hts hK hN r_hG r_hNW hl.1 (n := 1) (As := [.int x4]) (rest := []) (c_rX12_isTerm l hap σ x4 res hres) hP (ci := 12) (q0 := 0) rfl rfl rfl kw_929 kw_926 kw_928 kw_24 kw_64 ⟨rfl, rfl⟩ (by decide +kernel) rfl ⟨Nat.le_of_ble_eq_true rfl, Nat.le_of_ble_eq_true rfl⟩ rfl (Nat.le_of_ble_eq_true rfl) dX12_term_56) hS (fun v1 σ2 H locs hP hS hf => ?_)
    refine jb_ne (tgt := 65) hx hb hf dX12_term_59 (by decide) (fun hf => ?_) (fun hf => ?_)
    · exact (p_rX12_term_b65 C hap) σ2 x1 x2 x3 x4 x5 hf H locs ls hP hS (lv_sub hl [0, 1, 2, 3, 4, 5] rfl)
    · refine lv_bipush (v := (-101)) hx hb dX12_term_62 (by decide) ?_
      exact jr_i hx hb hr hlocks hf rfl hP hS dX12_term_64
def s_rX12_term_b27 (σ : RS) (x1 : Int32) (x2 : Int32) (x3 : Int32) (x4 : Int32) (x5 : Int64) : Option (Int32 × RS) := if x1 ≤ 7 then (s_rX12_term_b47 σ x1 x2 x3 x4 x5) else (if 17 ≤ x1 then (s_rX12_term_b47 σ x1 x2 x3 x4 x5) else (kn_i (s_rX12_isTerm σ x3) (fun v1 σ2 => if v1 = 0 then (some ((-101), σ2)) else (s_rX12_term_b47 σ2 x1 x2 x3 x4 x5))))
set_option maxRecDepth 100000 in
set_option maxHeartbeats 4000000 in
theorem p_rX12_term_b27 {p : Program} {l : Launch} {e : Env} {s : State} {m : MethodId} {args : Array Value} {below : List Frame} {meth : Method} {c : Code} {dC : Nat → ClassId} {dI : Nat → Nat → Nat} {kA : Nat → ClassId} {ad : Nat → Nat} (C : jxc cX12_term (some .int) 7 RX12 p s m args meth c dC dI kA) (hap : jw_ap 32 ad) {res : Int32 × RS} : G_rX12_term_b27 p l e s m args below meth c dC dI kA ad res (s_rX12_term_b27) := by
  obtain ⟨hx, hb, hml, hown, hts, hr, hlocks, hK, hN⟩ := id C
  intro σ x1 x2 x3 x4 x5 hf H locs ls hP hS hl
  unfold s_rX12_term_b27 at hf
  refine lv_iload_n hx hb dX12_term_27 rfl (lv_at hl 1 rfl) ?_
  refine lv_bipush (v := 7) hx hb dX12_term_28 (by decide) ?_
  refine jc_le (tgt := 47) hx hb hf dX12_term_30 (by decide) (fun hf => ?_) (fun hf => ?_)
  · exact (p_rX12_term_b47 C hap) σ x1 x2 x3 x4 x5 hf H locs ls hP hS (lv_sub hl [0, 1, 2, 3, 4, 5] rfl)
  · refine lv_iload_n hx hb dX12_term_33 rfl (lv_at hl 1 rfl) ?_
    refine lv_bipush (v := 17) hx hb dX12_term_34 (by decide) ?_
    refine jc_ge (tgt := 47) hx hb hf dX12_term_36 (by decide) (fun hf => ?_) (fun hf => ?_)
    · exact (p_rX12_term_b47 C hap) σ x1 x2 x3 x4 x5 hf H locs ls hP hS (lv_sub hl [0, 1, 2, 3, 4, 5] rfl)
    · refine lv_aload_n hx hb dX12_term_39 rfl (lv_at hl 0 rfl) ?_
      refine lv_iload_n hx hb dX12_term_40 rfl (lv_at hl 3 rfl) ?_
      refine jk_i hf (fun res hres => jv_run hx hb hml hown hts hK hN r_hG r_hNW hl.1 (n := 1) (As := [.int x3]) (rest := []) (c_rX12_isTerm l hap σ x3 res hres) hP (ci := 12) (q0 := 0) rfl rfl rfl kw_929 kw_926 kw_928 kw_24 kw_64 ⟨rfl, rfl⟩ (by decide +kernel) rfl ⟨Nat.le_of_ble_eq_true rfl, Nat.le_of_ble_eq_true rfl⟩ rfl (Nat.le_of_ble_eq_true rfl) dX12_term_41) hS (fun v1 σ2 H locs hP hS hf => ?_)
      refine jb_eq (tgt := 62) hx hb hf dX12_term_44 (by decide) (fun hf => ?_) (fun hf => ?_)
      · refine lv_bipush (v := (-101)) hx hb dX12_term_62 (by decide) ?_
        exact jr_i hx hb hr hlocks hf rfl hP hS dX12_term_64
      · exact (p_rX12_term_b47 C hap) σ2 x1 x2 x3 x4 x5 hf H locs ls hP hS (lv_sub hl [0, 1, 2, 3, 4, 5] rfl)
def s_rX12_term (σ : RS) (x1 : Int32) (x2 : Int32) (x3 : Int32) (x4 : Int32) (x5 : Int64) : Option (Int32 × RS) := kn_i (s_rX12_in σ x1 0 17) (fun v1 σ2 => if v1 = 0 then (some ((-102), σ2)) else (if x1 ≤ 7 then (s_rX12_term_b27 σ2 x1 x2 x3 x4 x5) else (kn_i (s_rX12_isTerm σ2 x2) (fun v3 σ4 => if v3 = 0 then (some ((-101), σ4)) else (s_rX12_term_b27 σ4 x1 x2 x3 x4 x5)))))
set_option maxRecDepth 100000 in
set_option maxHeartbeats 4000000 in
theorem p_rX12_term {p : Program} {l : Launch} {e : Env} {s : State} {m : MethodId} {args : Array Value} {below : List Frame} {meth : Method} {c : Code} {dC : Nat → ClassId} {dI : Nat → Nat → Nat} {kA : Nat → ClassId} {ad : Nat → Nat} (C : jxc cX12_term (some .int) 7 RX12 p s m args meth c dC dI kA) (hap : jw_ap 32 ad) {res : Int32 × RS} : G_rX12_term p l e s m args below meth c dC dI kA ad res (s_rX12_term) := by
  obtain ⟨hx, hb, hml, hown, hts, hr, hlocks, hK, hN⟩ := id C
  intro σ x1 x2 x3 x4 x5 hf H locs ls hP hS hl
  unfold s_rX12_term at hf
  refine lv_iload_n hx hb dX12_term_0 rfl (lv_at hl 1 rfl) ?_
  refine lv_iconst (v := 0) hx hb dX12_term_1 (by decide) ?_
  refine lv_bipush (v := 17) hx hb dX12_term_2 (by decide) ?_
  refine jk_i hf (fun res hres => js_run hx hb hml hown hts hK hN r_hG r_hNW hl.1 (n := 3) (As := [.int x1, .int 0, .int 17]) (rest := []) (c_rX12_in l hap σ x1 0 17 res hres) hP kw_925 kw_923 kw_924 kw_64 ⟨rfl, rfl⟩ (by decide +kernel) rfl ⟨Nat.le_of_ble_eq_true rfl, Nat.le_of_ble_eq_true rfl⟩ rfl (Nat.le_of_ble_eq_true rfl) dX12_term_4) hS (fun v1 σ2 H locs hP hS hf => ?_)
  refine jb_ne (tgt := 13) hx hb hf dX12_term_7 (by decide) (fun hf => ?_) (fun hf => ?_)
  · refine lv_iload_n hx hb dX12_term_13 rfl (lv_at hl 1 rfl) ?_
    refine lv_bipush (v := 7) hx hb dX12_term_14 (by decide) ?_
    refine jc_le (tgt := 27) hx hb hf dX12_term_16 (by decide) (fun hf => ?_) (fun hf => ?_)
    · exact (p_rX12_term_b27 C hap) σ2 x1 x2 x3 x4 x5 hf H locs ls hP hS (lv_sub hl [0, 1, 2, 3, 4, 5] rfl)
    · refine lv_aload_n hx hb dX12_term_19 rfl (lv_at hl 0 rfl) ?_
      refine lv_iload_n hx hb dX12_term_20 rfl (lv_at hl 2 rfl) ?_
      refine jk_i hf (fun res hres => jv_run hx hb hml hown hts hK hN r_hG r_hNW hl.1 (n := 1) (As := [.int x2]) (rest := []) (c_rX12_isTerm l hap σ2 x2 res hres) hP (ci := 12) (q0 := 0) rfl rfl rfl kw_929 kw_926 kw_928 kw_24 kw_64 ⟨rfl, rfl⟩ (by decide +kernel) rfl ⟨Nat.le_of_ble_eq_true rfl, Nat.le_of_ble_eq_true rfl⟩ rfl (Nat.le_of_ble_eq_true rfl) dX12_term_21) hS (fun v3 σ4 H locs hP hS hf => ?_)
      refine jb_eq (tgt := 62) hx hb hf dX12_term_24 (by decide) (fun hf => ?_) (fun hf => ?_)
      · refine lv_bipush (v := (-101)) hx hb dX12_term_62 (by decide) ?_
        exact jr_i hx hb hr hlocks hf rfl hP hS dX12_term_64
      · exact (p_rX12_term_b27 C hap) σ4 x1 x2 x3 x4 x5 hf H locs ls hP hS (lv_sub hl [0, 1, 2, 3, 4, 5] rfl)
  · refine lv_bipush (v := (-102)) hx hb dX12_term_10 (by decide) ?_
    exact jr_i hx hb hr hlocks hf rfl hP hS dX12_term_12
theorem c_rX12_term (l : Launch) {dC : Nat → ClassId} {dI : Nat → Nat → Nat} {kA : Nat → ClassId} {ad : Nat → Nat} (hap : jw_ap 32 ad) (σ : RS) (x1 : Int32) (x2 : Int32) (x3 : Int32) (x4 : Int32) (x5 : Int64) (res : Int32 × RS) (hf : s_rX12_term σ x1 x2 x3 x4 x5 = some res) : jm_i l KW NW (dC, dI) vwCl (jtys kA) (jw_A 32 ad) (r_w kA ad) yX12_term cX12_term 7 .int (rm_rX12_term) [.ref (ad 0), .int x1, .int x2, .int x3, .int x4, .long x5] σ res := jm_i_of (by decide) (Nat.le_of_ble_eq_true rfl) (fun p e s m below meth c C hP hS ls hl => p_rX12_term C hap σ x1 x2 x3 x4 x5 hf s.heap [] ls hP hS hl)

def rm_rX12_node : Room := { frames := 0, cells := 0, slots := 0, locals := 0 }
def G_rX12_node (p : Program) (l : Launch) (e : Env) (s : State) (m : MethodId) (args : Array Value) (below : List Frame) (meth : Method) (c : Code) (dC : Nat → ClassId) (dI : Nat → Nat → Nat) (kA : Nat → ClassId) (ad : Nat → Nat) (res : Int32 × RS) (F : RS → Option (Int32 × RS)) : Prop := ∀ (σ : RS), F σ = some res → ∀ (H : Heap) (locs : List Loc) (ls : Array Slot), va_P (dC, dI) vwCl (r_w kA ad σ) H → va_S (jw_A 32 ad) s.heap H locs → lv_has ls 1 [(0, .ref (ad 0))] → W p l e rm_rX12_node s m args below meth c H locs 0 0 (r_Qi below dC dI kA ad args s res) (F0 m 0 ls [])
def s_rX12_node (σ : RS) : Option (Int32 × RS) := if (rg_I σ 1) = 12 then (some ((-103), σ)) else (kn_st (rs_A σ 4 (upd (rg_A σ 4) (rg_I σ 1).toNatClampNeg 1)) 12 (rg_I σ 1) (fun σ1 => kn_v (rs_I σ1 1 ((rg_I σ1 1) + 1)) (fun σ2 => kn_v (rs_I σ2 7 0) (fun σ3 => some ((rg_I σ3 1) - 1, σ3)))))
set_option maxRecDepth 100000 in
set_option maxHeartbeats 4000000 in
theorem p_rX12_node {p : Program} {l : Launch} {e : Env} {s : State} {m : MethodId} {args : Array Value} {below : List Frame} {meth : Method} {c : Code} {dC : Nat → ClassId} {dI : Nat → Nat → Nat} {kA : Nat → ClassId} {ad : Nat → Nat} (C : jxc cX12_node (some .int) 1 RX12 p s m args meth c dC dI kA) (hap : jw_ap 32 ad) {res : Int32 × RS} : G_rX12_node p l e s m args below meth c dC dI kA ad res (s_rX12_node) := by
  obtain ⟨hx, hb, hml, hown, hts, hr, hlocks, hK, hN⟩ := id C
  intro σ hf H locs ls hP hS hl
  unfold s_rX12_node at hf
  refine lv_aload_n hx hb dX12_node_0 rfl (lv_at hl 0 rfl) ?_
  refine r_gX12_nodes hx hb hts hown hK hP (hts _ kw_765) dX12_node_1 ?_
  refine lv_bipush (v := 12) hx hb dX12_node_4 (by decide) ?_
  refine jc_ne (tgt := 12) hx hb hf dX12_node_6 (by decide) (fun hf => ?_) (fun hf => ?_)
  · refine lv_aload_n hx hb dX12_node_12 rfl (lv_at hl 0 rfl) ?_
    refine r_gX12_awake hx hb hts hown hK hP (hts _ kw_767) dX12_node_13 ?_
    refine lv_aload_n hx hb dX12_node_16 rfl (lv_at hl 0 rfl) ?_
    refine r_gX12_nodes hx hb hts hown hK hP (hts _ kw_765) dX12_node_17 ?_
    refine lv_iconst (v := 1) hx hb dX12_node_20 (by decide) ?_
    refine ja_zst hx hb hK (r_D hap σ) hP hS 7 2 rfl rfl (by decide) r_sA4 hf dX12_node_21 (fun σ1 H locs hP hS hf => ?_)
    refine lv_aload_n hx hb dX12_node_22 rfl (lv_at hl 0 rfl) ?_
    refine lv_dup hx hb dX12_node_23 rfl ?_
    refine r_gX12_nodes hx hb hts hown hK hP (hts _ kw_765) dX12_node_24 ?_
    refine lv_iconst (v := 1) hx hb dX12_node_27 (by decide) ?_
    refine lv_iadd hx hb dX12_node_28 ?_
    refine r_pX12_nodes hx hb hts hown hK hap hP hS hf (hts _ kw_765) dX12_node_29 (fun σ2 H locs hP hS hf => ?_)
    refine lv_aload_n hx hb dX12_node_32 rfl (lv_at hl 0 rfl) ?_
    refine lv_iconst (v := 0) hx hb dX12_node_33 (by decide) ?_
    refine r_pX12_kept hx hb hts hown hK hap hP hS hf (hts _ kw_779) dX12_node_34 (fun σ3 H locs hP hS hf => ?_)
    refine lv_aload_n hx hb dX12_node_37 rfl (lv_at hl 0 rfl) ?_
    refine r_gX12_nodes hx hb hts hown hK hP (hts _ kw_765) dX12_node_38 ?_
    refine lv_iconst (v := 1) hx hb dX12_node_41 (by decide) ?_
    refine lv_isub hx hb dX12_node_42 ?_
    exact jr_i hx hb hr hlocks hf rfl hP hS dX12_node_43
  · refine lv_bipush (v := (-103)) hx hb dX12_node_9 (by decide) ?_
    exact jr_i hx hb hr hlocks hf rfl hP hS dX12_node_11
theorem c_rX12_node (l : Launch) {dC : Nat → ClassId} {dI : Nat → Nat → Nat} {kA : Nat → ClassId} {ad : Nat → Nat} (hap : jw_ap 32 ad) (σ : RS) (res : Int32 × RS) (hf : s_rX12_node σ = some res) : jm_i l KW NW (dC, dI) vwCl (jtys kA) (jw_A 32 ad) (r_w kA ad) yX12_node cX12_node 1 .int (rm_rX12_node) [.ref (ad 0)] σ res := jm_i_of (by decide) (Nat.le_of_ble_eq_true rfl) (fun p e s m below meth c C hP hS ls hl => p_rX12_node C hap σ hf s.heap [] ls hP hS hl)

def rm_rX12_arc : Room := { frames := 2, cells := 0, slots := 0, locals := 43 }
def G_rX12_arc (p : Program) (l : Launch) (e : Env) (s : State) (m : MethodId) (args : Array Value) (below : List Frame) (meth : Method) (c : Code) (dC : Nat → ClassId) (dI : Nat → Nat → Nat) (kA : Nat → ClassId) (ad : Nat → Nat) (res : Int32 × RS) (F : RS → Int32 → Int32 → Int64 → Option (Int32 × RS)) : Prop := ∀ (σ : RS) (x1 : Int32) (x2 : Int32) (x3 : Int64), F σ x1 x2 x3 = some res → ∀ (H : Heap) (locs : List Loc) (ls : Array Slot), va_P (dC, dI) vwCl (r_w kA ad σ) H → va_S (jw_A 32 ad) s.heap H locs → lv_has ls 5 [(0, .ref (ad 0)), (1, .int x1), (2, .int x2), (3, .long x3)] → W p l e rm_rX12_arc s m args below meth c H locs 0 0 (r_Qi below dC dI kA ad args s res) (F0 m 0 ls [])
def s_rX12_arc (σ : RS) (x1 : Int32) (x2 : Int32) (x3 : Int64) : Option (Int32 × RS) := kn_i (s_rX12_isNode σ x1) (fun v1 σ2 => if v1 = 0 then (some ((-101), σ2)) else (kn_i (s_rX12_isNode σ2 x2) (fun v3 σ4 => if v3 = 0 then (some ((-101), σ4)) else (if (rg_I σ4 2) = 40 then (some ((-103), σ4)) else (kn_st (rs_A σ4 5 (upd (rg_A σ4 5) (rg_I σ4 2).toNatClampNeg x1)) 40 (rg_I σ4 2) (fun σ5 => kn_st (rs_A σ5 6 (upd (rg_A σ5 6) (rg_I σ5 2).toNatClampNeg x2)) 40 (rg_I σ5 2) (fun σ6 => kn_st (rs_B σ6 2 (vp_updL (rg_B σ6 2) (rg_I σ6 2).toNatClampNeg x3)) 40 (rg_I σ6 2) (fun σ7 => kn_v (rs_I σ7 2 ((rg_I σ7 2) + 1)) (fun σ8 => kn_v (rs_I σ8 7 0) (fun σ9 => some ((rg_I σ9 2) - 1, σ9)))))))))))
set_option maxRecDepth 100000 in
set_option maxHeartbeats 4000000 in
theorem p_rX12_arc {p : Program} {l : Launch} {e : Env} {s : State} {m : MethodId} {args : Array Value} {below : List Frame} {meth : Method} {c : Code} {dC : Nat → ClassId} {dI : Nat → Nat → Nat} {kA : Nat → ClassId} {ad : Nat → Nat} (C : jxc cX12_arc (some .int) 5 RX12 p s m args meth c dC dI kA) (hap : jw_ap 32 ad) {res : Int32 × RS} : G_rX12_arc p l e s m args below meth c dC dI kA ad res (s_rX12_arc) := by
  obtain ⟨hx, hb, hml, hown, hts, hr, hlocks, hK, hN⟩ := id C
  intro σ x1 x2 x3 hf H locs ls hP hS hl
  unfold s_rX12_arc at hf
  refine lv_aload_n hx hb dX12_arc_0 rfl (lv_at hl 0 rfl) ?_
  refine lv_iload_n hx hb dX12_arc_1 rfl (lv_at hl 1 rfl) ?_
  refine jk_i hf (fun res hres => jv_run hx hb hml hown hts hK hN r_hG r_hNW hl.1 (n := 1) (As := [.int x1]) (rest := []) (c_rX12_isNode l hap σ x1 res hres) hP (ci := 12) (q0 := 0) rfl rfl rfl kw_942 kw_939 kw_941 kw_25 kw_64 ⟨rfl, rfl⟩ (by decide +kernel) rfl ⟨Nat.le_of_ble_eq_true rfl, Nat.le_of_ble_eq_true rfl⟩ rfl (Nat.le_of_ble_eq_true rfl) dX12_arc_2) hS (fun v1 σ2 H locs hP hS hf => ?_)
  refine jb_eq (tgt := 16) hx hb hf dX12_arc_5 (by decide) (fun hf => ?_) (fun hf => ?_)
  · refine lv_bipush (v := (-101)) hx hb dX12_arc_16 (by decide) ?_
    exact jr_i hx hb hr hlocks hf rfl hP hS dX12_arc_18
  · refine lv_aload_n hx hb dX12_arc_8 rfl (lv_at hl 0 rfl) ?_
    refine lv_iload_n hx hb dX12_arc_9 rfl (lv_at hl 2 rfl) ?_
    refine jk_i hf (fun res hres => jv_run hx hb hml hown hts hK hN r_hG r_hNW hl.1 (n := 1) (As := [.int x2]) (rest := []) (c_rX12_isNode l hap σ2 x2 res hres) hP (ci := 12) (q0 := 0) rfl rfl rfl kw_942 kw_939 kw_941 kw_25 kw_64 ⟨rfl, rfl⟩ (by decide +kernel) rfl ⟨Nat.le_of_ble_eq_true rfl, Nat.le_of_ble_eq_true rfl⟩ rfl (Nat.le_of_ble_eq_true rfl) dX12_arc_10) hS (fun v3 σ4 H locs hP hS hf => ?_)
    refine jb_ne (tgt := 19) hx hb hf dX12_arc_13 (by decide) (fun hf => ?_) (fun hf => ?_)
    · refine lv_aload_n hx hb dX12_arc_19 rfl (lv_at hl 0 rfl) ?_
      refine r_gX12_arcs hx hb hts hown hK hP (hts _ kw_768) dX12_arc_20 ?_
      refine lv_bipush (v := 40) hx hb dX12_arc_23 (by decide) ?_
      refine jc_ne (tgt := 31) hx hb hf dX12_arc_25 (by decide) (fun hf => ?_) (fun hf => ?_)
      · refine lv_aload_n hx hb dX12_arc_31 rfl (lv_at hl 0 rfl) ?_
        refine r_gX12_from hx hb hts hown hK hP (hts _ kw_769) dX12_arc_32 ?_
        refine lv_aload_n hx hb dX12_arc_35 rfl (lv_at hl 0 rfl) ?_
        refine r_gX12_arcs hx hb hts hown hK hP (hts _ kw_768) dX12_arc_36 ?_
        refine lv_iload_n hx hb dX12_arc_39 rfl (lv_at hl 1 rfl) ?_
        refine ja_ist hx hb hK (r_D hap σ4) hP hS 8 0 rfl rfl r_sA5 hf dX12_arc_40 (fun σ5 H locs hP hS hf => ?_)
        refine lv_aload_n hx hb dX12_arc_41 rfl (lv_at hl 0 rfl) ?_
        refine r_gX12_to hx hb hts hown hK hP (hts _ kw_770) dX12_arc_42 ?_
        refine lv_aload_n hx hb dX12_arc_45 rfl (lv_at hl 0 rfl) ?_
        refine r_gX12_arcs hx hb hts hown hK hP (hts _ kw_768) dX12_arc_46 ?_
        refine lv_iload_n hx hb dX12_arc_49 rfl (lv_at hl 2 rfl) ?_
        refine ja_ist hx hb hK (r_D hap σ5) hP hS 9 0 rfl rfl r_sA6 hf dX12_arc_50 (fun σ6 H locs hP hS hf => ?_)
        refine lv_aload_n hx hb dX12_arc_51 rfl (lv_at hl 0 rfl) ?_
        refine r_gX12_weights hx hb hts hown hK hP (hts _ kw_771) dX12_arc_52 ?_
        refine lv_aload_n hx hb dX12_arc_55 rfl (lv_at hl 0 rfl) ?_
        refine r_gX12_arcs hx hb hts hown hK hP (hts _ kw_768) dX12_arc_56 ?_
        refine lv_lload_n hx hb dX12_arc_59 rfl (lv_at hl 3 rfl) ?_
        refine ja_lst hx hb hK (r_D hap σ6) hP hS 10 1 rfl rfl r_sB2 hf dX12_arc_60 (fun σ7 H locs hP hS hf => ?_)
        refine lv_aload_n hx hb dX12_arc_61 rfl (lv_at hl 0 rfl) ?_
        refine lv_dup hx hb dX12_arc_62 rfl ?_
        refine r_gX12_arcs hx hb hts hown hK hP (hts _ kw_768) dX12_arc_63 ?_
        refine lv_iconst (v := 1) hx hb dX12_arc_66 (by decide) ?_
        refine lv_iadd hx hb dX12_arc_67 ?_
        refine r_pX12_arcs hx hb hts hown hK hap hP hS hf (hts _ kw_768) dX12_arc_68 (fun σ8 H locs hP hS hf => ?_)
        refine lv_aload_n hx hb dX12_arc_71 rfl (lv_at hl 0 rfl) ?_
        refine lv_iconst (v := 0) hx hb dX12_arc_72 (by decide) ?_
        refine r_pX12_kept hx hb hts hown hK hap hP hS hf (hts _ kw_779) dX12_arc_73 (fun σ9 H locs hP hS hf => ?_)
        refine lv_aload_n hx hb dX12_arc_76 rfl (lv_at hl 0 rfl) ?_
        refine r_gX12_arcs hx hb hts hown hK hP (hts _ kw_768) dX12_arc_77 ?_
        refine lv_iconst (v := 1) hx hb dX12_arc_80 (by decide) ?_
        refine lv_isub hx hb dX12_arc_81 ?_
        exact jr_i hx hb hr hlocks hf rfl hP hS dX12_arc_82
      · refine lv_bipush (v := (-103)) hx hb dX12_arc_28 (by decide) ?_
        exact jr_i hx hb hr hlocks hf rfl hP hS dX12_arc_30
    · refine lv_bipush (v := (-101)) hx hb dX12_arc_16 (by decide) ?_
      exact jr_i hx hb hr hlocks hf rfl hP hS dX12_arc_18
theorem c_rX12_arc (l : Launch) {dC : Nat → ClassId} {dI : Nat → Nat → Nat} {kA : Nat → ClassId} {ad : Nat → Nat} (hap : jw_ap 32 ad) (σ : RS) (x1 : Int32) (x2 : Int32) (x3 : Int64) (res : Int32 × RS) (hf : s_rX12_arc σ x1 x2 x3 = some res) : jm_i l KW NW (dC, dI) vwCl (jtys kA) (jw_A 32 ad) (r_w kA ad) yX12_arc cX12_arc 5 .int (rm_rX12_arc) [.ref (ad 0), .int x1, .int x2, .long x3] σ res := jm_i_of (by decide) (Nat.le_of_ble_eq_true rfl) (fun p e s m below meth c C hP hS ls hl => p_rX12_arc C hap σ x1 x2 x3 hf s.heap [] ls hP hS hl)

def rm_rX12_put : Room := { frames := 2, cells := 0, slots := 0, locals := 43 }
def G_rX12_put (p : Program) (l : Launch) (e : Env) (s : State) (m : MethodId) (args : Array Value) (below : List Frame) (meth : Method) (c : Code) (dC : Nat → ClassId) (dI : Nat → Nat → Nat) (kA : Nat → ClassId) (ad : Nat → Nat) (res : Int32 × RS) (F : RS → Int32 → Int32 → Int64 → Option (Int32 × RS)) : Prop := ∀ (σ : RS) (x1 : Int32) (x2 : Int32) (x3 : Int64), F σ x1 x2 x3 = some res → ∀ (H : Heap) (locs : List Loc) (ls : Array Slot), va_P (dC, dI) vwCl (r_w kA ad σ) H → va_S (jw_A 32 ad) s.heap H locs → lv_has ls 5 [(0, .ref (ad 0)), (1, .int x1), (2, .int x2), (3, .long x3)] → W p l e rm_rX12_put s m args below meth c H locs 0 0 (r_Qi below dC dI kA ad args s res) (F0 m 0 ls [])
def s_rX12_put (σ : RS) (x1 : Int32) (x2 : Int32) (x3 : Int64) : Option (Int32 × RS) := kn_i (s_rX12_isNode σ x1) (fun v1 σ2 => if v1 = 0 then (some ((-101), σ2)) else (kn_i (s_rX12_in σ2 x2 0 2) (fun v3 σ4 => if v3 = 0 then (some ((-102), σ4)) else (kn_st (rs_B σ4 1 (vp_updL (rg_B σ4 1) ((3 * x1) + x2).toNatClampNeg x3)) 36 ((3 * x1) + x2) (fun σ5 => kn_v (rs_I σ5 7 0) (fun σ6 => some (1, σ6)))))))
set_option maxRecDepth 100000 in
set_option maxHeartbeats 4000000 in
theorem p_rX12_put {p : Program} {l : Launch} {e : Env} {s : State} {m : MethodId} {args : Array Value} {below : List Frame} {meth : Method} {c : Code} {dC : Nat → ClassId} {dI : Nat → Nat → Nat} {kA : Nat → ClassId} {ad : Nat → Nat} (C : jxc cX12_put (some .int) 5 RX12 p s m args meth c dC dI kA) (hap : jw_ap 32 ad) {res : Int32 × RS} : G_rX12_put p l e s m args below meth c dC dI kA ad res (s_rX12_put) := by
  obtain ⟨hx, hb, hml, hown, hts, hr, hlocks, hK, hN⟩ := id C
  intro σ x1 x2 x3 hf H locs ls hP hS hl
  unfold s_rX12_put at hf
  refine lv_aload_n hx hb dX12_put_0 rfl (lv_at hl 0 rfl) ?_
  refine lv_iload_n hx hb dX12_put_1 rfl (lv_at hl 1 rfl) ?_
  refine jk_i hf (fun res hres => jv_run hx hb hml hown hts hK hN r_hG r_hNW hl.1 (n := 1) (As := [.int x1]) (rest := []) (c_rX12_isNode l hap σ x1 res hres) hP (ci := 12) (q0 := 0) rfl rfl rfl kw_942 kw_939 kw_941 kw_25 kw_64 ⟨rfl, rfl⟩ (by decide +kernel) rfl ⟨Nat.le_of_ble_eq_true rfl, Nat.le_of_ble_eq_true rfl⟩ rfl (Nat.le_of_ble_eq_true rfl) dX12_put_2) hS (fun v1 σ2 H locs hP hS hf => ?_)
  refine jb_ne (tgt := 11) hx hb hf dX12_put_5 (by decide) (fun hf => ?_) (fun hf => ?_)
  · refine lv_iload_n hx hb dX12_put_11 rfl (lv_at hl 2 rfl) ?_
    refine lv_iconst (v := 0) hx hb dX12_put_12 (by decide) ?_
    refine lv_iconst (v := 2) hx hb dX12_put_13 (by decide) ?_
    refine jk_i hf (fun res hres => js_run hx hb hml hown hts hK hN r_hG r_hNW hl.1 (n := 3) (As := [.int x2, .int 0, .int 2]) (rest := []) (c_rX12_in l hap σ2 x2 0 2 res hres) hP kw_925 kw_923 kw_924 kw_64 ⟨rfl, rfl⟩ (by decide +kernel) rfl ⟨Nat.le_of_ble_eq_true rfl, Nat.le_of_ble_eq_true rfl⟩ rfl (Nat.le_of_ble_eq_true rfl) dX12_put_14) hS (fun v3 σ4 H locs hP hS hf => ?_)
    refine jb_ne (tgt := 23) hx hb hf dX12_put_17 (by decide) (fun hf => ?_) (fun hf => ?_)
    · refine lv_aload_n hx hb dX12_put_23 rfl (lv_at hl 0 rfl) ?_
      refine r_gX12_states hx hb hts hown hK hP (hts _ kw_766) dX12_put_24 ?_
      refine lv_iconst (v := 3) hx hb dX12_put_27 (by decide) ?_
      refine lv_iload_n hx hb dX12_put_28 rfl (lv_at hl 1 rfl) ?_
      refine lv_imul hx hb dX12_put_29 ?_
      refine lv_iload_n hx hb dX12_put_30 rfl (lv_at hl 2 rfl) ?_
      refine lv_iadd hx hb dX12_put_31 ?_
      refine lv_lload_n hx hb dX12_put_32 rfl (lv_at hl 3 rfl) ?_
      refine ja_lst hx hb hK (r_D hap σ4) hP hS 6 1 rfl rfl r_sB1 hf dX12_put_33 (fun σ5 H locs hP hS hf => ?_)
      refine lv_aload_n hx hb dX12_put_34 rfl (lv_at hl 0 rfl) ?_
      refine lv_iconst (v := 0) hx hb dX12_put_35 (by decide) ?_
      refine r_pX12_kept hx hb hts hown hK hap hP hS hf (hts _ kw_779) dX12_put_36 (fun σ6 H locs hP hS hf => ?_)
      refine lv_iconst (v := 1) hx hb dX12_put_39 (by decide) ?_
      exact jr_i hx hb hr hlocks hf rfl hP hS dX12_put_40
    · refine lv_bipush (v := (-102)) hx hb dX12_put_20 (by decide) ?_
      exact jr_i hx hb hr hlocks hf rfl hP hS dX12_put_22
  · refine lv_bipush (v := (-101)) hx hb dX12_put_8 (by decide) ?_
    exact jr_i hx hb hr hlocks hf rfl hP hS dX12_put_10
theorem c_rX12_put (l : Launch) {dC : Nat → ClassId} {dI : Nat → Nat → Nat} {kA : Nat → ClassId} {ad : Nat → Nat} (hap : jw_ap 32 ad) (σ : RS) (x1 : Int32) (x2 : Int32) (x3 : Int64) (res : Int32 × RS) (hf : s_rX12_put σ x1 x2 x3 = some res) : jm_i l KW NW (dC, dI) vwCl (jtys kA) (jw_A 32 ad) (r_w kA ad) yX12_put cX12_put 5 .int (rm_rX12_put) [.ref (ad 0), .int x1, .int x2, .long x3] σ res := jm_i_of (by decide) (Nat.le_of_ble_eq_true rfl) (fun p e s m below meth c C hP hS ls hl => p_rX12_put C hap σ x1 x2 x3 hf s.heap [] ls hP hS hl)

def rm_rX12_wake : Room := { frames := 2, cells := 0, slots := 0, locals := 43 }
def G_rX12_wake_b31 (p : Program) (l : Launch) (e : Env) (s : State) (m : MethodId) (args : Array Value) (below : List Frame) (meth : Method) (c : Code) (dC : Nat → ClassId) (dI : Nat → Nat → Nat) (kA : Nat → ClassId) (ad : Nat → Nat) (res : Int32 × RS) (F : RS → Int32 → Int32 → Int32 → Option (Int32 × RS)) : Prop := ∀ (σ : RS) (x1 : Int32) (x2 : Int32) (s0 : Int32), F σ x1 x2 s0 = some res → ∀ (H : Heap) (locs : List Loc) (ls : Array Slot), va_P (dC, dI) vwCl (r_w kA ad σ) H → va_S (jw_A 32 ad) s.heap H locs → lv_has ls 4 [(0, .ref (ad 0)), (1, .int x1), (2, .int x2)] → W p l e rm_rX12_wake s m args below meth c H locs 0 0 (r_Qi below dC dI kA ad args s res) (F0 m 31 ls [.int s0])
def G_rX12_wake (p : Program) (l : Launch) (e : Env) (s : State) (m : MethodId) (args : Array Value) (below : List Frame) (meth : Method) (c : Code) (dC : Nat → ClassId) (dI : Nat → Nat → Nat) (kA : Nat → ClassId) (ad : Nat → Nat) (res : Int32 × RS) (F : RS → Int32 → Int32 → Option (Int32 × RS)) : Prop := ∀ (σ : RS) (x1 : Int32) (x2 : Int32), F σ x1 x2 = some res → ∀ (H : Heap) (locs : List Loc) (ls : Array Slot), va_P (dC, dI) vwCl (r_w kA ad σ) H → va_S (jw_A 32 ad) s.heap H locs → lv_has ls 4 [(0, .ref (ad 0)), (1, .int x1), (2, .int x2)] → W p l e rm_rX12_wake s m args below meth c H locs 0 0 (r_Qi below dC dI kA ad args s res) (F0 m 0 ls [])
def s_rX12_wake_b31 (σ : RS) (x1 : Int32) (x2 : Int32) (s0 : Int32) : Option (Int32 × RS) := kn_st (rs_A σ 4 (upd (rg_A σ 4) x1.toNatClampNeg (vp_nar .boolean x2))) 12 x1 (fun σ1 => some (s0, σ1))
set_option maxRecDepth 100000 in
set_option maxHeartbeats 4000000 in
theorem p_rX12_wake_b31 {p : Program} {l : Launch} {e : Env} {s : State} {m : MethodId} {args : Array Value} {below : List Frame} {meth : Method} {c : Code} {dC : Nat → ClassId} {dI : Nat → Nat → Nat} {kA : Nat → ClassId} {ad : Nat → Nat} (C : jxc cX12_wake (some .int) 4 RX12 p s m args meth c dC dI kA) (hap : jw_ap 32 ad) {res : Int32 × RS} : G_rX12_wake_b31 p l e s m args below meth c dC dI kA ad res (s_rX12_wake_b31) := by
  obtain ⟨hx, hb, hml, hown, hts, hr, hlocks, hK, hN⟩ := id C
  intro σ x1 x2 s0 hf H locs ls hP hS hl
  unfold s_rX12_wake_b31 at hf
  refine lv_istore_n (lv' := [(3, .int s0), (0, .ref (ad 0)), (1, .int x1), (2, .int x2)]) hx hb dX12_wake_31 rfl hl (by decide) rfl (fun ls hl => ?_)
  refine lv_aload_n hx hb dX12_wake_32 rfl (lv_at hl 1 rfl) ?_
  refine r_gX12_awake hx hb hts hown hK hP (hts _ kw_767) dX12_wake_33 ?_
  refine lv_iload_n hx hb dX12_wake_36 rfl (lv_at hl 2 rfl) ?_
  refine lv_iload_n hx hb dX12_wake_37 rfl (lv_at hl 3 rfl) ?_
  refine ja_zst hx hb hK (r_D hap σ) hP hS 7 2 rfl rfl rfl r_sA4 hf dX12_wake_38 (fun σ1 H locs hP hS hf => ?_)
  refine lv_iload_n hx hb dX12_wake_39 rfl (lv_at hl 0 rfl) ?_
  exact jr_i hx hb hr hlocks hf rfl hP hS dX12_wake_40
def s_rX12_wake (σ : RS) (x1 : Int32) (x2 : Int32) : Option (Int32 × RS) := kn_i (s_rX12_isNode σ x1) (fun v1 σ2 => if v1 = 0 then (some ((-101), σ2)) else (kn_v (rs_I σ2 7 0) (fun σ3 => kn_ld (rg_A σ3 4) 12 x1 (fun v4 => if v4 = x2 then (s_rX12_wake_b31 σ3 x1 x2 0) else (s_rX12_wake_b31 σ3 x1 x2 1)))))
set_option maxRecDepth 100000 in
set_option maxHeartbeats 4000000 in
theorem p_rX12_wake {p : Program} {l : Launch} {e : Env} {s : State} {m : MethodId} {args : Array Value} {below : List Frame} {meth : Method} {c : Code} {dC : Nat → ClassId} {dI : Nat → Nat → Nat} {kA : Nat → ClassId} {ad : Nat → Nat} (C : jxc cX12_wake (some .int) 4 RX12 p s m args meth c dC dI kA) (hap : jw_ap 32 ad) {res : Int32 × RS} : G_rX12_wake p l e s m args below meth c dC dI kA ad res (s_rX12_wake) := by
  obtain ⟨hx, hb, hml, hown, hts, hr, hlocks, hK, hN⟩ := id C
  intro σ x1 x2 hf H locs ls hP hS hl
  unfold s_rX12_wake at hf
  refine lv_aload_n hx hb dX12_wake_0 rfl (lv_at hl 0 rfl) ?_
  refine lv_iload_n hx hb dX12_wake_1 rfl (lv_at hl 1 rfl) ?_
  refine jk_i hf (fun res hres => jv_run hx hb hml hown hts hK hN r_hG r_hNW hl.1 (n := 1) (As := [.int x1]) (rest := []) (c_rX12_isNode l hap σ x1 res hres) hP (ci := 12) (q0 := 0) rfl rfl rfl kw_942 kw_939 kw_941 kw_25 kw_64 ⟨rfl, rfl⟩ (by decide +kernel) rfl ⟨Nat.le_of_ble_eq_true rfl, Nat.le_of_ble_eq_true rfl⟩ rfl (Nat.le_of_ble_eq_true rfl) dX12_wake_2) hS (fun v1 σ2 H locs hP hS hf => ?_)
  refine jb_ne (tgt := 11) hx hb hf dX12_wake_5 (by decide) (fun hf => ?_) (fun hf => ?_)
  · refine lv_aload_n hx hb dX12_wake_11 rfl (lv_at hl 0 rfl) ?_
    refine lv_iconst (v := 0) hx hb dX12_wake_12 (by decide) ?_
    refine r_pX12_kept hx hb hts hown hK hap hP hS hf (hts _ kw_779) dX12_wake_13 (fun σ3 H locs hP hS hf => ?_)
    refine lv_aload_n hx hb dX12_wake_16 rfl (lv_at hl 0 rfl) ?_
    refine r_gX12_awake hx hb hts hown hK hP (hts _ kw_767) dX12_wake_17 ?_
    refine lv_iload_n hx hb dX12_wake_20 rfl (lv_at hl 1 rfl) ?_
    refine ja_zld hx hb hK hP 7 2 rfl rfl hf dX12_wake_21 (fun v4 hf => ?_)
    refine lv_iload_n hx hb dX12_wake_22 rfl (lv_at hl 2 rfl) ?_
    refine jc_ne (tgt := 30) hx hb hf dX12_wake_23 (by decide) (fun hf => ?_) (fun hf => ?_)
    · refine lv_iconst (v := 1) hx hb dX12_wake_30 (by decide) ?_
      exact (p_rX12_wake_b31 C hap) σ3 x1 x2 1 hf H locs ls hP hS (lv_sub hl [0, 1, 2] rfl)
    · refine lv_iconst (v := 0) hx hb dX12_wake_26 (by decide) ?_
      refine lv_goto (tgt := 31) hx hb dX12_wake_27 (by decide) ?_
      exact (p_rX12_wake_b31 C hap) σ3 x1 x2 0 hf H locs ls hP hS (lv_sub hl [0, 1, 2] rfl)
  · refine lv_bipush (v := (-101)) hx hb dX12_wake_8 (by decide) ?_
    exact jr_i hx hb hr hlocks hf rfl hP hS dX12_wake_10
theorem c_rX12_wake (l : Launch) {dC : Nat → ClassId} {dI : Nat → Nat → Nat} {kA : Nat → ClassId} {ad : Nat → Nat} (hap : jw_ap 32 ad) (σ : RS) (x1 : Int32) (x2 : Int32) (res : Int32 × RS) (hf : s_rX12_wake σ x1 x2 = some res) : jm_i l KW NW (dC, dI) vwCl (jtys kA) (jw_A 32 ad) (r_w kA ad) yX12_wake cX12_wake 4 .int (rm_rX12_wake) [.ref (ad 0), .int x1, .int x2] σ res := jm_i_of (by decide) (Nat.le_of_ble_eq_true rfl) (fun p e s m below meth c C hP hS ls hl => p_rX12_wake C hap σ x1 x2 hf s.heap [] ls hP hS hl)

def rm_rX12_act : Room := { frames := 2, cells := 0, slots := 0, locals := 43 }
def G_rX12_act_b16 (p : Program) (l : Launch) (e : Env) (s : State) (m : MethodId) (args : Array Value) (below : List Frame) (meth : Method) (c : Code) (dC : Nat → ClassId) (dI : Nat → Nat → Nat) (kA : Nat → ClassId) (ad : Nat → Nat) (res : Int32 × RS) (F : RS → Int32 → Int32 → Option (Int32 × RS)) : Prop := ∀ (σ : RS) (x1 : Int32) (x2 : Int32), F σ x1 x2 = some res → ∀ (H : Heap) (locs : List Loc) (ls : Array Slot), va_P (dC, dI) vwCl (r_w kA ad σ) H → va_S (jw_A 32 ad) s.heap H locs → lv_has ls 4 [(0, .ref (ad 0)), (1, .int x1), (2, .int x2)] → W p l e rm_rX12_act s m args below meth c H locs 0 0 (r_Qi below dC dI kA ad args s res) (F0 m 16 ls [])
def G_rX12_act (p : Program) (l : Launch) (e : Env) (s : State) (m : MethodId) (args : Array Value) (below : List Frame) (meth : Method) (c : Code) (dC : Nat → ClassId) (dI : Nat → Nat → Nat) (kA : Nat → ClassId) (ad : Nat → Nat) (res : Int32 × RS) (F : RS → Int32 → Int32 → Option (Int32 × RS)) : Prop := ∀ (σ : RS) (x1 : Int32) (x2 : Int32), F σ x1 x2 = some res → ∀ (H : Heap) (locs : List Loc) (ls : Array Slot), va_P (dC, dI) vwCl (r_w kA ad σ) H → va_S (jw_A 32 ad) s.heap H locs → lv_has ls 4 [(0, .ref (ad 0)), (1, .int x1), (2, .int x2)] → W p l e rm_rX12_act s m args below meth c H locs 0 0 (r_Qi below dC dI kA ad args s res) (F0 m 0 ls [])
def s_rX12_act_b16 (σ : RS) (x1 : Int32) (x2 : Int32) : Option (Int32 × RS) := kn_i (s_rX12_in σ x1 0 6) (fun v1 σ2 => if v1 = 0 then (some ((-102), σ2)) else (kn_ld (rg_A σ2 7) 7 x1 (fun v3 => kn_st (rs_A σ2 7 (upd (rg_A σ2 7) x1.toNatClampNeg x2)) 7 x1 (fun σ4 => kn_v (rs_I σ4 7 0) (fun σ5 => some (v3, σ5))))))
set_option maxRecDepth 100000 in
set_option maxHeartbeats 4000000 in
theorem p_rX12_act_b16 {p : Program} {l : Launch} {e : Env} {s : State} {m : MethodId} {args : Array Value} {below : List Frame} {meth : Method} {c : Code} {dC : Nat → ClassId} {dI : Nat → Nat → Nat} {kA : Nat → ClassId} {ad : Nat → Nat} (C : jxc cX12_act (some .int) 4 RX12 p s m args meth c dC dI kA) (hap : jw_ap 32 ad) {res : Int32 × RS} : G_rX12_act_b16 p l e s m args below meth c dC dI kA ad res (s_rX12_act_b16) := by
  obtain ⟨hx, hb, hml, hown, hts, hr, hlocks, hK, hN⟩ := id C
  intro σ x1 x2 hf H locs ls hP hS hl
  unfold s_rX12_act_b16 at hf
  refine lv_iload_n hx hb dX12_act_16 rfl (lv_at hl 1 rfl) ?_
  refine lv_iconst (v := 0) hx hb dX12_act_17 (by decide) ?_
  refine lv_bipush (v := 6) hx hb dX12_act_18 (by decide) ?_
  refine jk_i hf (fun res hres => js_run hx hb hml hown hts hK hN r_hG r_hNW hl.1 (n := 3) (As := [.int x1, .int 0, .int 6]) (rest := []) (c_rX12_in l hap σ x1 0 6 res hres) hP kw_925 kw_923 kw_924 kw_64 ⟨rfl, rfl⟩ (by decide +kernel) rfl ⟨Nat.le_of_ble_eq_true rfl, Nat.le_of_ble_eq_true rfl⟩ rfl (Nat.le_of_ble_eq_true rfl) dX12_act_20) hS (fun v1 σ2 H locs hP hS hf => ?_)
  refine jb_ne (tgt := 29) hx hb hf dX12_act_23 (by decide) (fun hf => ?_) (fun hf => ?_)
  · refine lv_aload_n hx hb dX12_act_29 rfl (lv_at hl 0 rfl) ?_
    refine r_gX12_acts hx hb hts hown hK hP (hts _ kw_772) dX12_act_30 ?_
    refine lv_iload_n hx hb dX12_act_33 rfl (lv_at hl 1 rfl) ?_
    refine ja_ild hx hb hK hP 11 0 rfl rfl hf dX12_act_34 (fun v3 hf => ?_)
    refine lv_istore_n (lv' := [(3, .int v3), (0, .ref (ad 0)), (1, .int x1), (2, .int x2)]) hx hb dX12_act_35 rfl hl (by decide) rfl (fun ls hl => ?_)
    refine lv_aload_n hx hb dX12_act_36 rfl (lv_at hl 1 rfl) ?_
    refine r_gX12_acts hx hb hts hown hK hP (hts _ kw_772) dX12_act_37 ?_
    refine lv_iload_n hx hb dX12_act_40 rfl (lv_at hl 2 rfl) ?_
    refine lv_iload_n hx hb dX12_act_41 rfl (lv_at hl 3 rfl) ?_
    refine ja_ist hx hb hK (r_D hap σ2) hP hS 11 0 rfl rfl r_sA7 hf dX12_act_42 (fun σ4 H locs hP hS hf => ?_)
    refine lv_aload_n hx hb dX12_act_43 rfl (lv_at hl 1 rfl) ?_
    refine lv_iconst (v := 0) hx hb dX12_act_44 (by decide) ?_
    refine r_pX12_kept hx hb hts hown hK hap hP hS hf (hts _ kw_779) dX12_act_45 (fun σ5 H locs hP hS hf => ?_)
    refine lv_iload_n hx hb dX12_act_48 rfl (lv_at hl 0 rfl) ?_
    exact jr_i hx hb hr hlocks hf rfl hP hS dX12_act_49
  · refine lv_bipush (v := (-102)) hx hb dX12_act_26 (by decide) ?_
    exact jr_i hx hb hr hlocks hf rfl hP hS dX12_act_28
def s_rX12_act (σ : RS) (x1 : Int32) (x2 : Int32) : Option (Int32 × RS) := if x2 = (-1) then (s_rX12_act_b16 σ x1 x2) else (kn_i (s_rX12_isTerm σ x2) (fun v1 σ2 => if v1 = 0 then (some ((-101), σ2)) else (s_rX12_act_b16 σ2 x1 x2)))
set_option maxRecDepth 100000 in
set_option maxHeartbeats 4000000 in
theorem p_rX12_act {p : Program} {l : Launch} {e : Env} {s : State} {m : MethodId} {args : Array Value} {below : List Frame} {meth : Method} {c : Code} {dC : Nat → ClassId} {dI : Nat → Nat → Nat} {kA : Nat → ClassId} {ad : Nat → Nat} (C : jxc cX12_act (some .int) 4 RX12 p s m args meth c dC dI kA) (hap : jw_ap 32 ad) {res : Int32 × RS} : G_rX12_act p l e s m args below meth c dC dI kA ad res (s_rX12_act) := by
  obtain ⟨hx, hb, hml, hown, hts, hr, hlocks, hK, hN⟩ := id C
  intro σ x1 x2 hf H locs ls hP hS hl
  unfold s_rX12_act at hf
  refine lv_iload_n hx hb dX12_act_0 rfl (lv_at hl 2 rfl) ?_
  refine lv_iconst (v := (-1)) hx hb dX12_act_1 (by decide) ?_
  refine jc_eq (tgt := 16) hx hb hf dX12_act_2 (by decide) (fun hf => ?_) (fun hf => ?_)
  · exact (p_rX12_act_b16 C hap) σ x1 x2 hf H locs ls hP hS (lv_sub hl [0, 1, 2] rfl)
  · refine lv_aload_n hx hb dX12_act_5 rfl (lv_at hl 0 rfl) ?_
    refine lv_iload_n hx hb dX12_act_6 rfl (lv_at hl 2 rfl) ?_
    refine jk_i hf (fun res hres => jv_run hx hb hml hown hts hK hN r_hG r_hNW hl.1 (n := 1) (As := [.int x2]) (rest := []) (c_rX12_isTerm l hap σ x2 res hres) hP (ci := 12) (q0 := 0) rfl rfl rfl kw_929 kw_926 kw_928 kw_24 kw_64 ⟨rfl, rfl⟩ (by decide +kernel) rfl ⟨Nat.le_of_ble_eq_true rfl, Nat.le_of_ble_eq_true rfl⟩ rfl (Nat.le_of_ble_eq_true rfl) dX12_act_7) hS (fun v1 σ2 H locs hP hS hf => ?_)
    refine jb_ne (tgt := 16) hx hb hf dX12_act_10 (by decide) (fun hf => ?_) (fun hf => ?_)
    · exact (p_rX12_act_b16 C hap) σ2 x1 x2 hf H locs ls hP hS (lv_sub hl [0, 1, 2] rfl)
    · refine lv_bipush (v := (-101)) hx hb dX12_act_13 (by decide) ?_
      exact jr_i hx hb hr hlocks hf rfl hP hS dX12_act_15
theorem c_rX12_act (l : Launch) {dC : Nat → ClassId} {dI : Nat → Nat → Nat} {kA : Nat → ClassId} {ad : Nat → Nat} (hap : jw_ap 32 ad) (σ : RS) (x1 : Int32) (x2 : Int32) (res : Int32 × RS) (hf : s_rX12_act σ x1 x2 = some res) : jm_i l KW NW (dC, dI) vwCl (jtys kA) (jw_A 32 ad) (r_w kA ad) yX12_act cX12_act 4 .int (rm_rX12_act) [.ref (ad 0), .int x1, .int x2] σ res := jm_i_of (by decide) (Nat.le_of_ble_eq_true rfl) (fun p e s m below meth c C hP hS ls hl => p_rX12_act C hap σ x1 x2 hf s.heap [] ls hP hS hl)

def rm_rX12_fold : Room := { frames := 1, cells := 0, slots := 0, locals := 22 }
def G_rX12_fold (p : Program) (l : Launch) (e : Env) (s : State) (m : MethodId) (args : Array Value) (below : List Frame) (meth : Method) (c : Code) (dC : Nat → ClassId) (dI : Nat → Nat → Nat) (kA : Nat → ClassId) (ad : Nat → Nat) (res : Int32 × RS) (F : RS → Int32 → Option (Int32 × RS)) : Prop := ∀ (σ : RS) (x1 : Int32), F σ x1 = some res → ∀ (H : Heap) (locs : List Loc) (ls : Array Slot), va_P (dC, dI) vwCl (r_w kA ad σ) H → va_S (jw_A 32 ad) s.heap H locs → lv_has ls 3 [(0, .ref (ad 0)), (1, .int x1)] → W p l e rm_rX12_fold s m args below meth c H locs 0 0 (r_Qi below dC dI kA ad args s res) (F0 m 0 ls [])
def s_rX12_fold (σ : RS) (x1 : Int32) : Option (Int32 × RS) := kn_i (s_rX12_in σ x1 0 3) (fun v1 σ2 => if v1 = 0 then (some ((-102), σ2)) else (kn_v (rg_I σ2 3) (fun v3 => kn_v (rs_I σ2 3 x1) (fun σ4 => kn_v (rs_I σ4 7 0) (fun σ5 => some (v3, σ5))))))
set_option maxRecDepth 100000 in
set_option maxHeartbeats 4000000 in
theorem p_rX12_fold {p : Program} {l : Launch} {e : Env} {s : State} {m : MethodId} {args : Array Value} {below : List Frame} {meth : Method} {c : Code} {dC : Nat → ClassId} {dI : Nat → Nat → Nat} {kA : Nat → ClassId} {ad : Nat → Nat} (C : jxc cX12_fold (some .int) 3 RX12 p s m args meth c dC dI kA) (hap : jw_ap 32 ad) {res : Int32 × RS} : G_rX12_fold p l e s m args below meth c dC dI kA ad res (s_rX12_fold) := by
  obtain ⟨hx, hb, hml, hown, hts, hr, hlocks, hK, hN⟩ := id C
  intro σ x1 hf H locs ls hP hS hl
  unfold s_rX12_fold at hf
  refine lv_iload_n hx hb dX12_fold_0 rfl (lv_at hl 1 rfl) ?_
  refine lv_iconst (v := 0) hx hb dX12_fold_1 (by decide) ?_
  refine lv_iconst (v := 3) hx hb dX12_fold_2 (by decide) ?_
  refine jk_i hf (fun res hres => js_run hx hb hml hown hts hK hN r_hG r_hNW hl.1 (n := 3) (As := [.int x1, .int 0, .int 3]) (rest := []) (c_rX12_in l hap σ x1 0 3 res hres) hP kw_925 kw_923 kw_924 kw_64 ⟨rfl, rfl⟩ (by decide +kernel) rfl ⟨Nat.le_of_ble_eq_true rfl, Nat.le_of_ble_eq_true rfl⟩ rfl (Nat.le_of_ble_eq_true rfl) dX12_fold_3) hS (fun v1 σ2 H locs hP hS hf => ?_)
  refine jb_ne (tgt := 12) hx hb hf dX12_fold_6 (by decide) (fun hf => ?_) (fun hf => ?_)
  · refine lv_aload_n hx hb dX12_fold_12 rfl (lv_at hl 0 rfl) ?_
    refine r_gX12_fold hx hb hts hown hK hP (hts _ kw_773) dX12_fold_13 ?_
    refine jn_i hf (fun v3 hf => ?_)
    refine lv_istore_n (lv' := [(2, .int v3), (0, .ref (ad 0)), (1, .int x1)]) hx hb dX12_fold_16 rfl hl (by decide) rfl (fun ls hl => ?_)
    refine lv_aload_n hx hb dX12_fold_17 rfl (lv_at hl 1 rfl) ?_
    refine lv_iload_n hx hb dX12_fold_18 rfl (lv_at hl 2 rfl) ?_
    refine r_pX12_fold hx hb hts hown hK hap hP hS hf (hts _ kw_773) dX12_fold_19 (fun σ4 H locs hP hS hf => ?_)
    refine lv_aload_n hx hb dX12_fold_22 rfl (lv_at hl 1 rfl) ?_
    refine lv_iconst (v := 0) hx hb dX12_fold_23 (by decide) ?_
    refine r_pX12_kept hx hb hts hown hK hap hP hS hf (hts _ kw_779) dX12_fold_24 (fun σ5 H locs hP hS hf => ?_)
    refine lv_iload_n hx hb dX12_fold_27 rfl (lv_at hl 0 rfl) ?_
    exact jr_i hx hb hr hlocks hf rfl hP hS dX12_fold_28
  · refine lv_bipush (v := (-102)) hx hb dX12_fold_9 (by decide) ?_
    exact jr_i hx hb hr hlocks hf rfl hP hS dX12_fold_11
theorem c_rX12_fold (l : Launch) {dC : Nat → ClassId} {dI : Nat → Nat → Nat} {kA : Nat → ClassId} {ad : Nat → Nat} (hap : jw_ap 32 ad) (σ : RS) (x1 : Int32) (res : Int32 × RS) (hf : s_rX12_fold σ x1 = some res) : jm_i l KW NW (dC, dI) vwCl (jtys kA) (jw_A 32 ad) (r_w kA ad) yX12_fold cX12_fold 3 .int (rm_rX12_fold) [.ref (ad 0), .int x1] σ res := jm_i_of (by decide) (Nat.le_of_ble_eq_true rfl) (fun p e s m below meth c C hP hS ls hl => p_rX12_fold C hap σ x1 hf s.heap [] ls hP hS hl)
