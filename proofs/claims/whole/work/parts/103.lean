theorem dX7_begin_0 : decode cX7_begin 0 = .ok (.aload_n 0, 1) := by decide +kernel
theorem dX7_begin_1 : decode cX7_begin 1 = .ok (.getfield 39, 3) := by decide +kernel
theorem dX7_begin_4 : decode cX7_begin 4 = .ok (.getfield 107, 3) := by decide +kernel
theorem dX7_begin_7 : decode cX7_begin 7 = .ok (.invokevirtual 111, 3) := by decide +kernel
theorem dX7_begin_10 : decode cX7_begin 10 = .ok (.aload_n 0, 1) := by decide +kernel
theorem dX7_begin_11 : decode cX7_begin 11 = .ok (.iconst 0, 1) := by decide +kernel
theorem dX7_begin_12 : decode cX7_begin 12 = .ok (.putfield 114, 3) := by decide +kernel
theorem dX7_begin_15 : decode cX7_begin 15 = .ok (.iconst 0, 1) := by decide +kernel
theorem dX7_begin_16 : decode cX7_begin 16 = .ok (.istore_n 1, 1) := by decide +kernel
theorem dX7_begin_17 : decode cX7_begin 17 = .ok (.iload_n 1, 1) := by decide +kernel
theorem dX7_begin_18 : decode cX7_begin 18 = .ok (.bipush 40, 2) := by decide +kernel
theorem dX7_begin_20 : decode cX7_begin 20 = .ok (.if_icmp .ge 16, 3) := by decide +kernel
theorem dX7_begin_23 : decode cX7_begin 23 = .ok (.aload_n 0, 1) := by decide +kernel
theorem dX7_begin_24 : decode cX7_begin 24 = .ok (.getfield 15, 3) := by decide +kernel
theorem dX7_begin_27 : decode cX7_begin 27 = .ok (.iload_n 1, 1) := by decide +kernel
theorem dX7_begin_28 : decode cX7_begin 28 = .ok (.iconst 0, 1) := by decide +kernel
theorem dX7_begin_29 : decode cX7_begin 29 = .ok (.bastore, 1) := by decide +kernel
theorem dX7_begin_30 : decode cX7_begin 30 = .ok (.iinc 1 1, 3) := by decide +kernel
theorem dX7_begin_33 : decode cX7_begin 33 = .ok (.goto (-16), 3) := by decide +kernel
theorem dX7_begin_36 : decode cX7_begin 36 = .ok (.return_, 1) := by decide +kernel
theorem dX7_foldFor_0 : decode cX7_foldFor 0 = .ok (.lconst 0, 1) := by decide +kernel
theorem dX7_foldFor_1 : decode cX7_foldFor 1 = .ok (.lstore_n 2, 1) := by decide +kernel
theorem dX7_foldFor_2 : decode cX7_foldFor 2 = .ok (.iconst 1, 1) := by decide +kernel
theorem dX7_foldFor_3 : decode cX7_foldFor 3 = .ok (.istore 4, 2) := by decide +kernel
theorem dX7_foldFor_5 : decode cX7_foldFor 5 = .ok (.iconst 0, 1) := by decide +kernel
theorem dX7_foldFor_6 : decode cX7_foldFor 6 = .ok (.istore 5, 2) := by decide +kernel
theorem dX7_foldFor_8 : decode cX7_foldFor 8 = .ok (.iload 5, 2) := by decide +kernel
theorem dX7_foldFor_10 : decode cX7_foldFor 10 = .ok (.aload_n 0, 1) := by decide +kernel
theorem dX7_foldFor_11 : decode cX7_foldFor 11 = .ok (.getfield 38, 3) := by decide +kernel
theorem dX7_foldFor_14 : decode cX7_foldFor 14 = .ok (.getfield 126, 3) := by decide +kernel
theorem dX7_foldFor_17 : decode cX7_foldFor 17 = .ok (.if_icmp .ge 80, 3) := by decide +kernel
theorem dX7_foldFor_20 : decode cX7_foldFor 20 = .ok (.aload_n 0, 1) := by decide +kernel
theorem dX7_foldFor_21 : decode cX7_foldFor 21 = .ok (.getfield 15, 3) := by decide +kernel
theorem dX7_foldFor_24 : decode cX7_foldFor 24 = .ok (.iload 5, 2) := by decide +kernel
theorem dX7_foldFor_26 : decode cX7_foldFor 26 = .ok (.baload, 1) := by decide +kernel
theorem dX7_foldFor_27 : decode cX7_foldFor 27 = .ok (.ifCond .eq 64, 3) := by decide +kernel
theorem dX7_foldFor_30 : decode cX7_foldFor 30 = .ok (.aload_n 0, 1) := by decide +kernel
theorem dX7_foldFor_31 : decode cX7_foldFor 31 = .ok (.getfield 38, 3) := by decide +kernel
theorem dX7_foldFor_34 : decode cX7_foldFor 34 = .ok (.getfield 117, 3) := by decide +kernel
theorem dX7_foldFor_37 : decode cX7_foldFor 37 = .ok (.iload 5, 2) := by decide +kernel
theorem dX7_foldFor_39 : decode cX7_foldFor 39 = .ok (.iaload, 1) := by decide +kernel
theorem dX7_foldFor_40 : decode cX7_foldFor 40 = .ok (.iload_n 1, 1) := by decide +kernel
theorem dX7_foldFor_41 : decode cX7_foldFor 41 = .ok (.if_icmp .eq 6, 3) := by decide +kernel
theorem dX7_foldFor_44 : decode cX7_foldFor 44 = .ok (.goto 47, 3) := by decide +kernel
theorem dX7_foldFor_47 : decode cX7_foldFor 47 = .ok (.iload 4, 2) := by decide +kernel
theorem dX7_foldFor_49 : decode cX7_foldFor 49 = .ok (.ifCond .eq 13, 3) := by decide +kernel
theorem dX7_foldFor_52 : decode cX7_foldFor 52 = .ok (.aload_n 0, 1) := by decide +kernel
theorem dX7_foldFor_53 : decode cX7_foldFor 53 = .ok (.getfield 19, 3) := by decide +kernel
theorem dX7_foldFor_56 : decode cX7_foldFor 56 = .ok (.iload 5, 2) := by decide +kernel
theorem dX7_foldFor_58 : decode cX7_foldFor 58 = .ok (.laload, 1) := by decide +kernel
theorem dX7_foldFor_59 : decode cX7_foldFor 59 = .ok (.goto 16, 3) := by decide +kernel
theorem dX7_foldFor_62 : decode cX7_foldFor 62 = .ok (.aload_n 0, 1) := by decide +kernel
theorem dX7_foldFor_63 : decode cX7_foldFor 63 = .ok (.lload_n 2, 1) := by decide +kernel
theorem dX7_foldFor_64 : decode cX7_foldFor 64 = .ok (.aload_n 0, 1) := by decide +kernel
theorem dX7_foldFor_65 : decode cX7_foldFor 65 = .ok (.getfield 19, 3) := by decide +kernel
theorem dX7_foldFor_68 : decode cX7_foldFor 68 = .ok (.iload 5, 2) := by decide +kernel
theorem dX7_foldFor_70 : decode cX7_foldFor 70 = .ok (.laload, 1) := by decide +kernel
theorem dX7_foldFor_71 : decode cX7_foldFor 71 = .ok (.iload_n 1, 1) := by decide +kernel
theorem dX7_foldFor_72 : decode cX7_foldFor 72 = .ok (.invokevirtual 159, 3) := by decide +kernel
theorem dX7_foldFor_75 : decode cX7_foldFor 75 = .ok (.lstore_n 2, 1) := by decide +kernel
theorem dX7_foldFor_76 : decode cX7_foldFor 76 = .ok (.iconst 0, 1) := by decide +kernel
theorem dX7_foldFor_77 : decode cX7_foldFor 77 = .ok (.istore 4, 2) := by decide +kernel
theorem dX7_foldFor_79 : decode cX7_foldFor 79 = .ok (.aload_n 0, 1) := by decide +kernel
theorem dX7_foldFor_80 : decode cX7_foldFor 80 = .ok (.getfield 47, 3) := by decide +kernel
theorem dX7_foldFor_83 : decode cX7_foldFor 83 = .ok (.invokevirtual 79, 3) := by decide +kernel
theorem dX7_foldFor_86 : decode cX7_foldFor 86 = .ok (.ifCond .eq 5, 3) := by decide +kernel
theorem dX7_foldFor_89 : decode cX7_foldFor 89 = .ok (.lconst 0, 1) := by decide +kernel
theorem dX7_foldFor_90 : decode cX7_foldFor 90 = .ok (.lreturn, 1) := by decide +kernel
theorem dX7_foldFor_91 : decode cX7_foldFor 91 = .ok (.iinc 5 1, 3) := by decide +kernel
theorem dX7_foldFor_94 : decode cX7_foldFor 94 = .ok (.goto (-86), 3) := by decide +kernel
theorem dX7_foldFor_97 : decode cX7_foldFor 97 = .ok (.lload_n 2, 1) := by decide +kernel
theorem dX7_foldFor_98 : decode cX7_foldFor 98 = .ok (.lreturn, 1) := by decide +kernel
theorem dX7_tellMessages_0 : decode cX7_tellMessages 0 = .ok (.aload_n 0, 1) := by decide +kernel
theorem dX7_tellMessages_1 : decode cX7_tellMessages 1 = .ok (.getfield 52, 3) := by decide +kernel
theorem dX7_tellMessages_4 : decode cX7_tellMessages 4 = .ok (.invokevirtual 195, 3) := by decide +kernel
theorem dX7_tellMessages_7 : decode cX7_tellMessages 7 = .ok (.iconst 0, 1) := by decide +kernel
theorem dX7_tellMessages_8 : decode cX7_tellMessages 8 = .ok (.istore_n 1, 1) := by decide +kernel
theorem dX7_tellMessages_9 : decode cX7_tellMessages 9 = .ok (.iload_n 1, 1) := by decide +kernel
theorem dX7_tellMessages_10 : decode cX7_tellMessages 10 = .ok (.aload_n 0, 1) := by decide +kernel
theorem dX7_tellMessages_11 : decode cX7_tellMessages 11 = .ok (.getfield 114, 3) := by decide +kernel
theorem dX7_tellMessages_14 : decode cX7_tellMessages 14 = .ok (.if_icmp .ge 33, 3) := by decide +kernel
theorem dX7_tellMessages_17 : decode cX7_tellMessages 17 = .ok (.aload_n 0, 1) := by decide +kernel
theorem dX7_tellMessages_18 : decode cX7_tellMessages 18 = .ok (.getfield 52, 3) := by decide +kernel
theorem dX7_tellMessages_21 : decode cX7_tellMessages 21 = .ok (.aload_n 0, 1) := by decide +kernel
theorem dX7_tellMessages_22 : decode cX7_tellMessages 22 = .ok (.getfield 9, 3) := by decide +kernel
theorem dX7_tellMessages_25 : decode cX7_tellMessages 25 = .ok (.iload_n 1, 1) := by decide +kernel
theorem dX7_tellMessages_26 : decode cX7_tellMessages 26 = .ok (.iaload, 1) := by decide +kernel
theorem dX7_tellMessages_27 : decode cX7_tellMessages 27 = .ok (.aload_n 0, 1) := by decide +kernel
theorem dX7_tellMessages_28 : decode cX7_tellMessages 28 = .ok (.getfield 19, 3) := by decide +kernel
theorem dX7_tellMessages_31 : decode cX7_tellMessages 31 = .ok (.aload_n 0, 1) := by decide +kernel
theorem dX7_tellMessages_32 : decode cX7_tellMessages 32 = .ok (.getfield 9, 3) := by decide +kernel
theorem dX7_tellMessages_35 : decode cX7_tellMessages 35 = .ok (.iload_n 1, 1) := by decide +kernel
theorem dX7_tellMessages_36 : decode cX7_tellMessages 36 = .ok (.iaload, 1) := by decide +kernel
theorem dX7_tellMessages_37 : decode cX7_tellMessages 37 = .ok (.laload, 1) := by decide +kernel
theorem dX7_tellMessages_38 : decode cX7_tellMessages 38 = .ok (.invokevirtual 200, 3) := by decide +kernel
theorem dX7_tellMessages_41 : decode cX7_tellMessages 41 = .ok (.iinc 1 1, 3) := by decide +kernel
theorem dX7_tellMessages_44 : decode cX7_tellMessages 44 = .ok (.goto (-35), 3) := by decide +kernel
theorem dX7_tellMessages_47 : decode cX7_tellMessages 47 = .ok (.return_, 1) := by decide +kernel
theorem dX8_add_0 : decode cX8_add 0 = .ok (.iload_n 1, 1) := by decide +kernel
theorem dX8_add_1 : decode cX8_add 1 = .ok (.ifCond .lt 9, 3) := by decide +kernel
theorem dX8_add_4 : decode cX8_add 4 = .ok (.iload_n 1, 1) := by decide +kernel
theorem dX8_add_5 : decode cX8_add 5 = .ok (.bipush 17, 2) := by decide +kernel
theorem dX8_add_7 : decode cX8_add 7 = .ok (.if_icmp .le 6, 3) := by decide +kernel
theorem dX8_add_10 : decode cX8_add 10 = .ok (.bipush (-102), 2) := by decide +kernel
theorem dX8_add_12 : decode cX8_add 12 = .ok (.ireturn, 1) := by decide +kernel
theorem dX8_add_13 : decode cX8_add 13 = .ok (.iload_n 1, 1) := by decide +kernel
theorem dX8_add_14 : decode cX8_add 14 = .ok (.invokestatic 32, 3) := by decide +kernel
theorem dX8_add_17 : decode cX8_add 17 = .ok (.istore 7, 2) := by decide +kernel
theorem dX8_add_19 : decode cX8_add 19 = .ok (.iload 7, 2) := by decide +kernel
theorem dX8_add_21 : decode cX8_add 21 = .ok (.ifCond .le 14, 3) := by decide +kernel
theorem dX8_add_24 : decode cX8_add 24 = .ok (.aload_n 0, 1) := by decide +kernel
theorem dX8_add_25 : decode cX8_add 25 = .ok (.iload_n 2, 1) := by decide +kernel
theorem dX8_add_26 : decode cX8_add 26 = .ok (.invokevirtual 36, 3) := by decide +kernel
theorem dX8_add_29 : decode cX8_add 29 = .ok (.ifCond .ne 6, 3) := by decide +kernel
theorem dX8_add_32 : decode cX8_add 32 = .ok (.bipush (-101), 2) := by decide +kernel
theorem dX8_add_34 : decode cX8_add 34 = .ok (.ireturn, 1) := by decide +kernel
theorem dX8_add_35 : decode cX8_add 35 = .ok (.iload 7, 2) := by decide +kernel
theorem dX8_add_37 : decode cX8_add 37 = .ok (.iconst 1, 1) := by decide +kernel
theorem dX8_add_38 : decode cX8_add 38 = .ok (.if_icmp .le 14, 3) := by decide +kernel
theorem dX8_add_41 : decode cX8_add 41 = .ok (.aload_n 0, 1) := by decide +kernel
theorem dX8_add_42 : decode cX8_add 42 = .ok (.iload_n 3, 1) := by decide +kernel
theorem dX8_add_43 : decode cX8_add 43 = .ok (.invokevirtual 36, 3) := by decide +kernel
theorem dX8_add_46 : decode cX8_add 46 = .ok (.ifCond .ne 6, 3) := by decide +kernel
theorem dX8_add_49 : decode cX8_add 49 = .ok (.bipush (-101), 2) := by decide +kernel
theorem dX8_add_51 : decode cX8_add 51 = .ok (.ireturn, 1) := by decide +kernel
theorem dX8_add_52 : decode cX8_add 52 = .ok (.iload 7, 2) := by decide +kernel
theorem dX8_add_54 : decode cX8_add 54 = .ok (.iconst 2, 1) := by decide +kernel
theorem dX8_add_55 : decode cX8_add 55 = .ok (.if_icmp .le 15, 3) := by decide +kernel
theorem dX8_add_58 : decode cX8_add 58 = .ok (.aload_n 0, 1) := by decide +kernel
theorem dX8_add_59 : decode cX8_add 59 = .ok (.iload 4, 2) := by decide +kernel
theorem dX8_add_61 : decode cX8_add 61 = .ok (.invokevirtual 36, 3) := by decide +kernel
theorem dX8_add_64 : decode cX8_add 64 = .ok (.ifCond .ne 6, 3) := by decide +kernel
theorem dX8_add_67 : decode cX8_add 67 = .ok (.bipush (-101), 2) := by decide +kernel
theorem dX8_add_69 : decode cX8_add 69 = .ok (.ireturn, 1) := by decide +kernel
theorem dX8_add_70 : decode cX8_add 70 = .ok (.iload_n 1, 1) := by decide +kernel
theorem dX8_add_71 : decode cX8_add 71 = .ok (.iconst 1, 1) := by decide +kernel
theorem dX8_add_72 : decode cX8_add 72 = .ok (.if_icmp .ne 14, 3) := by decide +kernel
theorem dX8_add_75 : decode cX8_add 75 = .ok (.lload 5, 2) := by decide +kernel
theorem dX8_add_77 : decode cX8_add 77 = .ok (.invokestatic 40, 3) := by decide +kernel
theorem dX8_add_80 : decode cX8_add 80 = .ok (.ifCond .ne 6, 3) := by decide +kernel
theorem dX8_add_83 : decode cX8_add 83 = .ok (.bipush (-102), 2) := by decide +kernel
theorem dX8_add_85 : decode cX8_add 85 = .ok (.ireturn, 1) := by decide +kernel
theorem dX8_add_86 : decode cX8_add 86 = .ok (.aload_n 0, 1) := by decide +kernel
theorem dX8_add_87 : decode cX8_add 87 = .ok (.getfield 28, 3) := by decide +kernel
theorem dX8_add_90 : decode cX8_add 90 = .ok (.bipush 40, 2) := by decide +kernel
theorem dX8_add_92 : decode cX8_add 92 = .ok (.if_icmp .lt 6, 3) := by decide +kernel
theorem dX8_add_95 : decode cX8_add 95 = .ok (.bipush (-103), 2) := by decide +kernel
theorem dX8_add_97 : decode cX8_add 97 = .ok (.ireturn, 1) := by decide +kernel
theorem dX8_add_98 : decode cX8_add 98 = .ok (.aload_n 0, 1) := by decide +kernel
theorem dX8_add_99 : decode cX8_add 99 = .ok (.getfield 9, 3) := by decide +kernel
theorem dX8_add_102 : decode cX8_add 102 = .ok (.aload_n 0, 1) := by decide +kernel
theorem dX8_add_103 : decode cX8_add 103 = .ok (.getfield 28, 3) := by decide +kernel
theorem dX8_add_106 : decode cX8_add 106 = .ok (.iload_n 1, 1) := by decide +kernel
theorem dX8_add_107 : decode cX8_add 107 = .ok (.iastore, 1) := by decide +kernel
theorem dX8_add_108 : decode cX8_add 108 = .ok (.aload_n 0, 1) := by decide +kernel
theorem dX8_add_109 : decode cX8_add 109 = .ok (.getfield 15, 3) := by decide +kernel
theorem dX8_add_112 : decode cX8_add 112 = .ok (.aload_n 0, 1) := by decide +kernel
theorem dX8_add_113 : decode cX8_add 113 = .ok (.getfield 28, 3) := by decide +kernel
theorem dX8_add_116 : decode cX8_add 116 = .ok (.iload_n 2, 1) := by decide +kernel
theorem dX8_add_117 : decode cX8_add 117 = .ok (.iastore, 1) := by decide +kernel
theorem dX8_add_118 : decode cX8_add 118 = .ok (.aload_n 0, 1) := by decide +kernel
theorem dX8_add_119 : decode cX8_add 119 = .ok (.getfield 18, 3) := by decide +kernel
theorem dX8_add_122 : decode cX8_add 122 = .ok (.aload_n 0, 1) := by decide +kernel
theorem dX8_add_123 : decode cX8_add 123 = .ok (.getfield 28, 3) := by decide +kernel
theorem dX8_add_126 : decode cX8_add 126 = .ok (.iload_n 3, 1) := by decide +kernel
theorem dX8_add_127 : decode cX8_add 127 = .ok (.iastore, 1) := by decide +kernel
theorem dX8_add_128 : decode cX8_add 128 = .ok (.aload_n 0, 1) := by decide +kernel
theorem dX8_add_129 : decode cX8_add 129 = .ok (.getfield 21, 3) := by decide +kernel
theorem dX8_add_132 : decode cX8_add 132 = .ok (.aload_n 0, 1) := by decide +kernel
theorem dX8_add_133 : decode cX8_add 133 = .ok (.getfield 28, 3) := by decide +kernel
theorem dX8_add_136 : decode cX8_add 136 = .ok (.iload 4, 2) := by decide +kernel
theorem dX8_add_138 : decode cX8_add 138 = .ok (.iastore, 1) := by decide +kernel
theorem dX8_add_139 : decode cX8_add 139 = .ok (.aload_n 0, 1) := by decide +kernel
theorem dX8_add_140 : decode cX8_add 140 = .ok (.getfield 24, 3) := by decide +kernel
theorem dX8_add_143 : decode cX8_add 143 = .ok (.aload_n 0, 1) := by decide +kernel
theorem dX8_add_144 : decode cX8_add 144 = .ok (.getfield 28, 3) := by decide +kernel
theorem dX8_add_147 : decode cX8_add 147 = .ok (.lload 5, 2) := by decide +kernel
theorem dX8_add_149 : decode cX8_add 149 = .ok (.lastore, 1) := by decide +kernel
theorem dX8_add_150 : decode cX8_add 150 = .ok (.aload_n 0, 1) := by decide +kernel
theorem dX8_add_151 : decode cX8_add 151 = .ok (.dup, 1) := by decide +kernel
theorem dX8_add_152 : decode cX8_add 152 = .ok (.getfield 28, 3) := by decide +kernel
theorem dX8_add_155 : decode cX8_add 155 = .ok (.iconst 1, 1) := by decide +kernel
theorem dX8_add_156 : decode cX8_add 156 = .ok (.iadd, 1) := by decide +kernel
theorem dX8_add_157 : decode cX8_add 157 = .ok (.putfield 28, 3) := by decide +kernel
theorem dX8_add_160 : decode cX8_add 160 = .ok (.aload_n 0, 1) := by decide +kernel
theorem dX8_add_161 : decode cX8_add 161 = .ok (.getfield 28, 3) := by decide +kernel
theorem dX8_add_164 : decode cX8_add 164 = .ok (.iconst 1, 1) := by decide +kernel
theorem dX8_add_165 : decode cX8_add 165 = .ok (.isub, 1) := by decide +kernel
theorem dX8_add_166 : decode cX8_add 166 = .ok (.ireturn, 1) := by decide +kernel
theorem dX11_term_0 : decode cX11_term 0 = .ok (.aload_n 0, 1) := by decide +kernel
theorem dX11_term_1 : decode cX11_term 1 = .ok (.getfield 10, 3) := by decide +kernel
theorem dX11_term_4 : decode cX11_term 4 = .ok (.iload_n 1, 1) := by decide +kernel
theorem dX11_term_5 : decode cX11_term 5 = .ok (.iload_n 2, 1) := by decide +kernel
theorem dX11_term_6 : decode cX11_term 6 = .ok (.iload_n 3, 1) := by decide +kernel
theorem dX11_term_7 : decode cX11_term 7 = .ok (.iload 4, 2) := by decide +kernel
theorem dX11_term_9 : decode cX11_term 9 = .ok (.lload 5, 2) := by decide +kernel
theorem dX11_term_11 : decode cX11_term 11 = .ok (.invokevirtual 85, 3) := by decide +kernel
theorem dX11_term_14 : decode cX11_term 14 = .ok (.ireturn, 1) := by decide +kernel
theorem dX11_node_0 : decode cX11_node 0 = .ok (.aload_n 0, 1) := by decide +kernel
theorem dX11_node_1 : decode cX11_node 1 = .ok (.aload_n 0, 1) := by decide +kernel
theorem dX11_node_2 : decode cX11_node 2 = .ok (.getfield 19, 3) := by decide +kernel
theorem dX11_node_5 : decode cX11_node 5 = .ok (.invokevirtual 89, 3) := by decide +kernel
theorem dX11_node_8 : decode cX11_node 8 = .ok (.invokevirtual 93, 3) := by decide +kernel
theorem dX11_node_11 : decode cX11_node 11 = .ok (.ireturn, 1) := by decide +kernel
theorem dX11_arc_0 : decode cX11_arc 0 = .ok (.aload_n 0, 1) := by decide +kernel
theorem dX11_arc_1 : decode cX11_arc 1 = .ok (.aload_n 0, 1) := by decide +kernel
theorem dX11_arc_2 : decode cX11_arc 2 = .ok (.getfield 19, 3) := by decide +kernel
theorem dX11_arc_5 : decode cX11_arc 5 = .ok (.iload_n 1, 1) := by decide +kernel
theorem dX11_arc_6 : decode cX11_arc 6 = .ok (.iload_n 2, 1) := by decide +kernel
theorem dX11_arc_7 : decode cX11_arc 7 = .ok (.lload_n 3, 1) := by decide +kernel
theorem dX11_arc_8 : decode cX11_arc 8 = .ok (.invokevirtual 97, 3) := by decide +kernel
theorem dX11_arc_11 : decode cX11_arc 11 = .ok (.invokevirtual 93, 3) := by decide +kernel
theorem dX11_arc_14 : decode cX11_arc 14 = .ok (.ireturn, 1) := by decide +kernel
theorem dX11_put_0 : decode cX11_put 0 = .ok (.aload_n 0, 1) := by decide +kernel
theorem dX11_put_1 : decode cX11_put 1 = .ok (.getfield 19, 3) := by decide +kernel
theorem dX11_put_4 : decode cX11_put 4 = .ok (.iload_n 1, 1) := by decide +kernel
theorem dX11_put_5 : decode cX11_put 5 = .ok (.invokevirtual 101, 3) := by decide +kernel
theorem dX11_put_8 : decode cX11_put 8 = .ok (.ifCond .ne 6, 3) := by decide +kernel
theorem dX11_put_11 : decode cX11_put 11 = .ok (.bipush (-101), 2) := by decide +kernel
theorem dX11_put_13 : decode cX11_put 13 = .ok (.ireturn, 1) := by decide +kernel
theorem dX11_put_14 : decode cX11_put 14 = .ok (.iload_n 2, 1) := by decide +kernel
theorem dX11_put_15 : decode cX11_put 15 = .ok (.i2l, 1) := by decide +kernel
theorem dX11_put_16 : decode cX11_put 16 = .ok (.invokestatic 105, 3) := by decide +kernel
theorem dX11_put_19 : decode cX11_put 19 = .ok (.ifCond .ne 6, 3) := by decide +kernel
theorem dX11_put_22 : decode cX11_put 22 = .ok (.bipush (-102), 2) := by decide +kernel
theorem dX11_put_24 : decode cX11_put 24 = .ok (.ireturn, 1) := by decide +kernel
theorem dX11_put_25 : decode cX11_put 25 = .ok (.aload_n 0, 1) := by decide +kernel
theorem dX11_put_26 : decode cX11_put 26 = .ok (.getfield 19, 3) := by decide +kernel
theorem dX11_put_29 : decode cX11_put 29 = .ok (.getfield 109, 3) := by decide +kernel
theorem dX11_put_32 : decode cX11_put 32 = .ok (.iload_n 1, 1) := by decide +kernel
theorem dX11_put_33 : decode cX11_put 33 = .ok (.iconst 3, 1) := by decide +kernel
theorem dX11_put_34 : decode cX11_put 34 = .ok (.imul, 1) := by decide +kernel
theorem dX11_put_35 : decode cX11_put 35 = .ok (.iload_n 2, 1) := by decide +kernel
theorem dX11_put_36 : decode cX11_put 36 = .ok (.iadd, 1) := by decide +kernel
theorem dX11_put_37 : decode cX11_put 37 = .ok (.lload_n 3, 1) := by decide +kernel
theorem dX11_put_38 : decode cX11_put 38 = .ok (.lastore, 1) := by decide +kernel
theorem dX11_put_39 : decode cX11_put 39 = .ok (.aload_n 0, 1) := by decide +kernel
theorem dX11_put_40 : decode cX11_put 40 = .ok (.iconst 1, 1) := by decide +kernel
theorem dX11_put_41 : decode cX11_put 41 = .ok (.invokevirtual 93, 3) := by decide +kernel
theorem dX11_put_44 : decode cX11_put 44 = .ok (.ireturn, 1) := by decide +kernel
def rm_cX7_begin : Room := { frames := 2, cells := 0, slots := 0, locals := 43 }
def G_cX7_begin_b17 (p : Program) (l : Launch) (e : Env) (s : State) (m : MethodId) (args : Array Value) (below : List Frame) (meth : Method) (c : Code) (dC : Nat → ClassId) (dI : Nat → Nat → Nat) (kA : Nat → ClassId) (ad : Nat → Nat) (res : RS) (F : RS → Int32 → Option (RS)) : Prop := ∀ (σ : RS) (x1 : Int32), F σ x1 = some res → ∀ (H : Heap) (locs : List Loc) (ls : Array Slot), va_P (dC, dI) vwCl (c_w kA ad σ) H → va_S (jw_A 57 ad) s.heap H locs → lv_has ls 2 [(0, .ref (ad 24)), (1, .int x1)] → W p l e rm_cX7_begin s m args below meth c H locs 0 0 (c_Qu below dC dI kA ad args s res) (F0 m 17 ls [])
def G_cX7_begin (p : Program) (l : Launch) (e : Env) (s : State) (m : MethodId) (args : Array Value) (below : List Frame) (meth : Method) (c : Code) (dC : Nat → ClassId) (dI : Nat → Nat → Nat) (kA : Nat → ClassId) (ad : Nat → Nat) (res : RS) (F : RS → Option (RS)) : Prop := ∀ (σ : RS), F σ = some res → ∀ (H : Heap) (locs : List Loc) (ls : Array Slot), va_P (dC, dI) vwCl (c_w kA ad σ) H → va_S (jw_A 57 ad) s.heap H locs → lv_has ls 2 [(0, .ref (ad 24))] → W p l e rm_cX7_begin s m args below meth c H locs 0 0 (c_Qu below dC dI kA ad args s res) (F0 m 0 ls [])
def s_cX7_begin_b17 (k17 : RS → Int32 → Option (RS)) (σ : RS) (x1 : Int32) : Option (RS) := if 40 ≤ x1 then some σ else (kn_st (rs_A σ 11 (upd (rg_A σ 11) x1.toNatClampNeg 0)) 40 x1 (fun σ1 => kn_v (x1 + 1) (fun v2 => k17 σ1 v2)))
set_option maxRecDepth 100000 in
set_option maxHeartbeats 4000000 in
theorem p_cX7_begin_b17 {p : Program} {l : Launch} {e : Env} {s : State} {m : MethodId} {args : Array Value} {below : List Frame} {meth : Method} {c : Code} {dC : Nat → ClassId} {dI : Nat → Nat → Nat} {kA : Nat → ClassId} {ad : Nat → Nat} (C : jxc cX7_begin none 2 RX7 p s m args meth c dC dI kA) (hap : jw_ap 57 ad) {res : RS} {k17 : RS → Int32 → Option (RS)} (hk17 : G_cX7_begin_b17 p l e s m args below meth c dC dI kA ad res k17) : G_cX7_begin_b17 p l e s m args below meth c dC dI kA ad res (s_cX7_begin_b17 k17) := by
  obtain ⟨hx, hb, hml, hown, hts, hr, hlocks, hK, hN⟩ := id C
  intro σ x1 hf H locs ls hP hS hl
  unfold s_cX7_begin_b17 at hf
  refine lv_iload_n hx hb dX7_begin_17 rfl (lv_at hl 1 rfl) ?_
  refine lv_bipush (v := 40) hx hb dX7_begin_18 (by decide) ?_
  refine jc_ge (tgt := 36) hx hb hf dX7_begin_20 (by decide) (fun hf => ?_) (fun hf => ?_)
  · exact jr_u hx hb hr hlocks hf hP hS dX7_begin_36
  · refine lv_aload_n hx hb dX7_begin_23 rfl (lv_at hl 0 rfl) ?_
    refine c_gX7_carries hx hb hts hown hK hP (hts _ kw_338) dX7_begin_24 ?_
    refine lv_iload_n hx hb dX7_begin_27 rfl (lv_at hl 1 rfl) ?_
    refine lv_iconst (v := 0) hx hb dX7_begin_28 (by decide) ?_
    refine ja_zst hx hb hK (c_D hap σ) hP hS 26 2 rfl rfl (by decide) c_sA11 hf dX7_begin_29 (fun σ1 H locs hP hS hf => ?_)
    obtain ⟨v2, e_v2, hf⟩ := kn_v_e hf
    refine lv_iinc (v := v2) (lv' := [(1, .int v2), (0, .ref (ad 24))]) hx hb dX7_begin_30 hl (k := 1) rfl e_v2 (by decide) rfl (fun ls hl => ?_)
    refine lv_goto (tgt := 17) hx hb dX7_begin_33 (by decide) ?_
    exact hk17 σ1 v2 hf H locs ls hP hS (lv_sub hl [1, 0] rfl)
def f_cX7_begin_b17 : RS → Int32 → Option (RS) := kn_fix (fun _ _ => none) (s_cX7_begin_b17) FU
theorem q_cX7_begin_b17 {p : Program} {l : Launch} {e : Env} {s : State} {m : MethodId} {args : Array Value} {below : List Frame} {meth : Method} {c : Code} {dC : Nat → ClassId} {dI : Nat → Nat → Nat} {kA : Nat → ClassId} {ad : Nat → Nat} (C : jxc cX7_begin none 2 RX7 p s m args meth c dC dI kA) (hap : jw_ap 57 ad) {res : RS} : G_cX7_begin_b17 p l e s m args below meth c dC dI kA ad res (f_cX7_begin_b17) := kn_fix_ind (G := fun F => G_cX7_begin_b17 p l e s m args below meth c dC dI kA ad res F) (fun _ _ hf => by cases hf) (fun k17 hk17 => p_cX7_begin_b17 C hap hk17) FU
def s_cX7_begin (σ : RS) : Option (RS) := kn_u (s_cX1_begin σ) (fun σ2 => kn_v (rs_I σ2 18 0) (fun σ3 => f_cX7_begin_b17 σ3 0))
set_option maxRecDepth 100000 in
set_option maxHeartbeats 4000000 in
theorem p_cX7_begin {p : Program} {l : Launch} {e : Env} {s : State} {m : MethodId} {args : Array Value} {below : List Frame} {meth : Method} {c : Code} {dC : Nat → ClassId} {dI : Nat → Nat → Nat} {kA : Nat → ClassId} {ad : Nat → Nat} (C : jxc cX7_begin none 2 RX7 p s m args meth c dC dI kA) (hap : jw_ap 57 ad) {res : RS} : G_cX7_begin p l e s m args below meth c dC dI kA ad res (s_cX7_begin) := by
  obtain ⟨hx, hb, hml, hown, hts, hr, hlocks, hK, hN⟩ := id C
  intro σ hf H locs ls hP hS hl
  unfold s_cX7_begin at hf
  refine lv_aload_n hx hb dX7_begin_0 rfl (lv_at hl 0 rfl) ?_
  refine c_gX7_actor hx hb hts hown hK hP (hts _ kw_333) dX7_begin_1 ?_
  refine c_gX0_asker hx hb hts hown hK hP (hts _ kw_313) dX7_begin_4 ?_
  refine jk_u hf (fun res hres => jv_run hx hb hml hown hts hK hN c_hG c_hNW hl.1 (n := 0) (As := []) (rest := []) (c_cX1_begin l hap σ res hres) hP (ci := 1) (q0 := 22) rfl rfl rfl kw_535 kw_625 kw_533 kw_534 kw_60 ⟨rfl, rfl⟩ (by decide +kernel) rfl ⟨Nat.le_of_ble_eq_true rfl, Nat.le_of_ble_eq_true rfl⟩ rfl (Nat.le_of_ble_eq_true rfl) dX7_begin_7) hS (fun σ2 H locs hP hS hf => ?_)
  refine lv_aload_n hx hb dX7_begin_10 rfl (lv_at hl 0 rfl) ?_
  refine lv_iconst (v := 0) hx hb dX7_begin_11 (by decide) ?_
  refine c_pX7_sent hx hb hts hown hK hap hP hS hf (hts _ kw_343) dX7_begin_12 (fun σ3 H locs hP hS hf => ?_)
  refine lv_iconst (v := 0) hx hb dX7_begin_15 (by decide) ?_
  refine lv_istore_n (lv' := [(1, .int 0), (0, .ref (ad 24))]) hx hb dX7_begin_16 rfl hl (by decide) rfl (fun ls hl => ?_)
  exact (q_cX7_begin_b17 C hap) σ3 0 hf H locs ls hP hS (lv_sub hl [1, 0] rfl)
theorem c_cX7_begin (l : Launch) {dC : Nat → ClassId} {dI : Nat → Nat → Nat} {kA : Nat → ClassId} {ad : Nat → Nat} (hap : jw_ap 57 ad) (σ : RS) (res : RS) (hf : s_cX7_begin σ = some res) : jm_u l KW NW (dC, dI) vwCl (jtys kA) (jw_A 57 ad) (c_w kA ad) yX7_begin cX7_begin 2 (rm_cX7_begin) [.ref (ad 24)] σ res := jm_u_of (by decide) (Nat.le_of_ble_eq_true rfl) (fun p e s m below meth c C hP hS ls hl => p_cX7_begin C hap σ hf s.heap [] ls hP hS hl)

def rm_cX7_foldFor : Room := { frames := 2, cells := 0, slots := 0, locals := 52 }
def G_cX7_foldFor_b91 (p : Program) (l : Launch) (e : Env) (s : State) (m : MethodId) (args : Array Value) (below : List Frame) (meth : Method) (c : Code) (dC : Nat → ClassId) (dI : Nat → Nat → Nat) (kA : Nat → ClassId) (ad : Nat → Nat) (res : Int64 × RS) (F : RS → Int32 → Int64 → Int32 → Int32 → Option (Int64 × RS)) : Prop := ∀ (σ : RS) (x1 : Int32) (x2 : Int64) (x4 : Int32) (x5 : Int32), F σ x1 x2 x4 x5 = some res → ∀ (H : Heap) (locs : List Loc) (ls : Array Slot), va_P (dC, dI) vwCl (c_w kA ad σ) H → va_S (jw_A 57 ad) s.heap H locs → lv_has ls 6 [(0, .ref (ad 24)), (1, .int x1), (2, .long x2), (4, .int x4), (5, .int x5)] → W p l e rm_cX7_foldFor s m args below meth c H locs 0 0 (c_Ql below dC dI kA ad args s res) (F0 m 91 ls [])
def G_cX7_foldFor_b75 (p : Program) (l : Launch) (e : Env) (s : State) (m : MethodId) (args : Array Value) (below : List Frame) (meth : Method) (c : Code) (dC : Nat → ClassId) (dI : Nat → Nat → Nat) (kA : Nat → ClassId) (ad : Nat → Nat) (res : Int64 × RS) (F : RS → Int32 → Int32 → Int64 → Option (Int64 × RS)) : Prop := ∀ (σ : RS) (x1 : Int32) (x5 : Int32) (s0 : Int64), F σ x1 x5 s0 = some res → ∀ (H : Heap) (locs : List Loc) (ls : Array Slot), va_P (dC, dI) vwCl (c_w kA ad σ) H → va_S (jw_A 57 ad) s.heap H locs → lv_has ls 6 [(0, .ref (ad 24)), (1, .int x1), (5, .int x5)] → W p l e rm_cX7_foldFor s m args below meth c H locs 0 0 (c_Ql below dC dI kA ad args s res) (F0 m 75 ls [.long s0])
def G_cX7_foldFor_b8 (p : Program) (l : Launch) (e : Env) (s : State) (m : MethodId) (args : Array Value) (below : List Frame) (meth : Method) (c : Code) (dC : Nat → ClassId) (dI : Nat → Nat → Nat) (kA : Nat → ClassId) (ad : Nat → Nat) (res : Int64 × RS) (F : RS → Int32 → Int64 → Int32 → Int32 → Option (Int64 × RS)) : Prop := ∀ (σ : RS) (x1 : Int32) (x2 : Int64) (x4 : Int32) (x5 : Int32), F σ x1 x2 x4 x5 = some res → ∀ (H : Heap) (locs : List Loc) (ls : Array Slot), va_P (dC, dI) vwCl (c_w kA ad σ) H → va_S (jw_A 57 ad) s.heap H locs → lv_has ls 6 [(0, .ref (ad 24)), (1, .int x1), (2, .long x2), (4, .int x4), (5, .int x5)] → W p l e rm_cX7_foldFor s m args below meth c H locs 0 0 (c_Ql below dC dI kA ad args s res) (F0 m 8 ls [])
def G_cX7_foldFor (p : Program) (l : Launch) (e : Env) (s : State) (m : MethodId) (args : Array Value) (below : List Frame) (meth : Method) (c : Code) (dC : Nat → ClassId) (dI : Nat → Nat → Nat) (kA : Nat → ClassId) (ad : Nat → Nat) (res : Int64 × RS) (F : RS → Int32 → Option (Int64 × RS)) : Prop := ∀ (σ : RS) (x1 : Int32), F σ x1 = some res → ∀ (H : Heap) (locs : List Loc) (ls : Array Slot), va_P (dC, dI) vwCl (c_w kA ad σ) H → va_S (jw_A 57 ad) s.heap H locs → lv_has ls 6 [(0, .ref (ad 24)), (1, .int x1)] → W p l e rm_cX7_foldFor s m args below meth c H locs 0 0 (c_Ql below dC dI kA ad args s res) (F0 m 0 ls [])
def s_cX7_foldFor_b91 (k8 : RS → Int32 → Int64 → Int32 → Int32 → Option (Int64 × RS)) (σ : RS) (x1 : Int32) (x2 : Int64) (x4 : Int32) (x5 : Int32) : Option (Int64 × RS) := kn_v (x5 + 1) (fun v1 => k8 σ x1 x2 x4 v1)
set_option maxRecDepth 100000 in
set_option maxHeartbeats 4000000 in
theorem p_cX7_foldFor_b91 {p : Program} {l : Launch} {e : Env} {s : State} {m : MethodId} {args : Array Value} {below : List Frame} {meth : Method} {c : Code} {dC : Nat → ClassId} {dI : Nat → Nat → Nat} {kA : Nat → ClassId} {ad : Nat → Nat} (C : jxc cX7_foldFor (some .long) 6 RX7 p s m args meth c dC dI kA) (hap : jw_ap 57 ad) {res : Int64 × RS} {k8 : RS → Int32 → Int64 → Int32 → Int32 → Option (Int64 × RS)} (hk8 : G_cX7_foldFor_b8 p l e s m args below meth c dC dI kA ad res k8) : G_cX7_foldFor_b91 p l e s m args below meth c dC dI kA ad res (s_cX7_foldFor_b91 k8) := by
  obtain ⟨hx, hb, hml, hown, hts, hr, hlocks, hK, hN⟩ := id C
  intro σ x1 x2 x4 x5 hf H locs ls hP hS hl
  unfold s_cX7_foldFor_b91 at hf
  obtain ⟨v1, e_v1, hf⟩ := kn_v_e hf
  refine lv_iinc (v := v1) (lv' := [(5, .int v1), (0, .ref (ad 24)), (1, .int x1), (2, .long x2), (4, .int x4)]) hx hb dX7_foldFor_91 hl (k := 4) rfl e_v1 (by decide) rfl (fun ls hl => ?_)
  refine lv_goto (tgt := 8) hx hb dX7_foldFor_94 (by decide) ?_
  exact hk8 σ x1 x2 x4 v1 hf H locs ls hP hS (lv_sub hl [1, 2, 3, 4, 0] rfl)
def s_cX7_foldFor_b75 (k8 : RS → Int32 → Int64 → Int32 → Int32 → Option (Int64 × RS)) (σ : RS) (x1 : Int32) (x5 : Int32) (s0 : Int64) : Option (Int64 × RS) := kn_i (s_cX2_is σ) (fun v1 σ2 => if v1 = 0 then (s_cX7_foldFor_b91 k8 σ2 x1 s0 0 x5) else (some (0, σ2)))
set_option maxRecDepth 100000 in
set_option maxHeartbeats 4000000 in
theorem p_cX7_foldFor_b75 {p : Program} {l : Launch} {e : Env} {s : State} {m : MethodId} {args : Array Value} {below : List Frame} {meth : Method} {c : Code} {dC : Nat → ClassId} {dI : Nat → Nat → Nat} {kA : Nat → ClassId} {ad : Nat → Nat} (C : jxc cX7_foldFor (some .long) 6 RX7 p s m args meth c dC dI kA) (hap : jw_ap 57 ad) {res : Int64 × RS} {k8 : RS → Int32 → Int64 → Int32 → Int32 → Option (Int64 × RS)} (hk8 : G_cX7_foldFor_b8 p l e s m args below meth c dC dI kA ad res k8) : G_cX7_foldFor_b75 p l e s m args below meth c dC dI kA ad res (s_cX7_foldFor_b75 k8) := by
  obtain ⟨hx, hb, hml, hown, hts, hr, hlocks, hK, hN⟩ := id C
  intro σ x1 x5 s0 hf H locs ls hP hS hl
  unfold s_cX7_foldFor_b75 at hf
  refine lv_lstore_n (lv' := [(2, .long s0), (0, .ref (ad 24)), (1, .int x1), (5, .int x5)]) hx hb dX7_foldFor_75 rfl hl (by decide) rfl (fun ls hl => ?_)
  refine lv_iconst (v := 0) hx hb dX7_foldFor_76 (by decide) ?_
  refine lv_istore (lv' := [(4, .int 0), (2, .long s0), (0, .ref (ad 24)), (1, .int x1), (5, .int x5)]) hx hb dX7_foldFor_77 hl (by decide) rfl (fun ls hl => ?_)
  refine lv_aload_n hx hb dX7_foldFor_79 rfl (lv_at hl 2 rfl) ?_
  refine c_gX7_failure hx hb hts hown hK hP (hts _ kw_334) dX7_foldFor_80 ?_
  refine jk_i hf (fun res hres => jv_run hx hb hml hown hts hK hN c_hG c_hNW hl.1 (n := 0) (As := []) (rest := []) (c_cX2_is l hap σ res hres) hP (ci := 2) (q0 := 16) rfl rfl rfl kw_584 kw_635 kw_582 kw_583 kw_56 ⟨rfl, rfl⟩ (by decide +kernel) rfl ⟨Nat.le_of_ble_eq_true rfl, Nat.le_of_ble_eq_true rfl⟩ rfl (Nat.le_of_ble_eq_true rfl) dX7_foldFor_83) hS (fun v1 σ2 H locs hP hS hf => ?_)
  refine jb_eq (tgt := 91) hx hb hf dX7_foldFor_86 (by decide) (fun hf => ?_) (fun hf => ?_)
  · exact (p_cX7_foldFor_b91 C hap hk8) σ2 x1 s0 0 x5 hf H locs ls hP hS (lv_sub hl [2, 3, 1, 0, 4] rfl)
  · refine lv_lconst (v := 0) hx hb dX7_foldFor_89 (by decide) ?_
    exact jr_l hx hb hr hlocks hf hP hS dX7_foldFor_90
def s_cX7_foldFor_b8 (k8 : RS → Int32 → Int64 → Int32 → Int32 → Option (Int64 × RS)) (σ : RS) (x1 : Int32) (x2 : Int64) (x4 : Int32) (x5 : Int32) : Option (Int64 × RS) := if (rg_I σ 3) ≤ x5 then (some (x2, σ)) else (kn_ld (rg_A σ 11) 40 x5 (fun v1 => if v1 = 0 then (s_cX7_foldFor_b91 k8 σ x1 x2 x4 x5) else (kn_ld (rg_A σ 7) 40 x5 (fun v2 => if v2 = x1 then (if x4 = 0 then (kn_ld (rg_B σ 4) 40 x5 (fun v3 => kn_l (s_cX7_foldTwo σ x2 v3 x1) (fun v4 σ5 => s_cX7_foldFor_b75 k8 σ5 x1 x5 v4))) else (kn_ld (rg_B σ 4) 40 x5 (fun v6 => s_cX7_foldFor_b75 k8 σ x1 x5 v6))) else (s_cX7_foldFor_b91 k8 σ x1 x2 x4 x5)))))
set_option maxRecDepth 100000 in
set_option maxHeartbeats 4000000 in
theorem p_cX7_foldFor_b8 {p : Program} {l : Launch} {e : Env} {s : State} {m : MethodId} {args : Array Value} {below : List Frame} {meth : Method} {c : Code} {dC : Nat → ClassId} {dI : Nat → Nat → Nat} {kA : Nat → ClassId} {ad : Nat → Nat} (C : jxc cX7_foldFor (some .long) 6 RX7 p s m args meth c dC dI kA) (hap : jw_ap 57 ad) {res : Int64 × RS} {k8 : RS → Int32 → Int64 → Int32 → Int32 → Option (Int64 × RS)} (hk8 : G_cX7_foldFor_b8 p l e s m args below meth c dC dI kA ad res k8) : G_cX7_foldFor_b8 p l e s m args below meth c dC dI kA ad res (s_cX7_foldFor_b8 k8) := by
  obtain ⟨hx, hb, hml, hown, hts, hr, hlocks, hK, hN⟩ := id C
  intro σ x1 x2 x4 x5 hf H locs ls hP hS hl
  unfold s_cX7_foldFor_b8 at hf
  refine lv_iload hx hb dX7_foldFor_8 (lv_at hl 4 rfl) ?_
  refine lv_aload_n hx hb dX7_foldFor_10 rfl (lv_at hl 0 rfl) ?_
  refine c_gX7_web hx hb hts hown hK hP (hts _ kw_332) dX7_foldFor_11 ?_
  refine c_gX10_arcs hx hb hts hown hK hP (hts _ kw_141) dX7_foldFor_14 ?_
  refine jc_ge (tgt := 97) hx hb hf dX7_foldFor_17 (by decide) (fun hf => ?_) (fun hf => ?_)
  · refine lv_lload_n hx hb dX7_foldFor_97 rfl (lv_at hl 2 rfl) ?_
    exact jr_l hx hb hr hlocks hf hP hS dX7_foldFor_98
  · refine lv_aload_n hx hb dX7_foldFor_20 rfl (lv_at hl 0 rfl) ?_
    refine c_gX7_carries hx hb hts hown hK hP (hts _ kw_338) dX7_foldFor_21 ?_
    refine lv_iload hx hb dX7_foldFor_24 (lv_at hl 4 rfl) ?_
    refine ja_zld hx hb hK hP 26 2 rfl rfl hf dX7_foldFor_26 (fun v1 hf => ?_)
    refine jb_eq (tgt := 91) hx hb hf dX7_foldFor_27 (by decide) (fun hf => ?_) (fun hf => ?_)
    · exact (p_cX7_foldFor_b91 C hap hk8) σ x1 x2 x4 x5 hf H locs ls hP hS (lv_sub hl [0, 1, 2, 3, 4] rfl)
    · refine lv_aload_n hx hb dX7_foldFor_30 rfl (lv_at hl 0 rfl) ?_
      refine c_gX7_web hx hb hts hown hK hP (hts _ kw_332) dX7_foldFor_31 ?_
      refine c_gX10_to hx hb hts hown hK hP (hts _ kw_131) dX7_foldFor_34 ?_
      refine lv_iload hx hb dX7_foldFor_37 (lv_at hl 4 rfl) ?_
      refine ja_ild hx hb hK hP 12 0 rfl rfl hf dX7_foldFor_39 (fun v2 hf => ?_)
      refine lv_iload_n hx hb dX7_foldFor_40 rfl (lv_at hl 1 rfl) ?_
      refine jc_eq (tgt := 47) hx hb hf dX7_foldFor_41 (by decide) (fun hf => ?_) (fun hf => ?_)
      · refine lv_iload hx hb dX7_foldFor_47 (lv_at hl 3 rfl) ?_
        refine jb_eq (tgt := 62) hx hb hf dX7_foldFor_49 (by decide) (fun hf => ?_) (fun hf => ?_)
        · refine lv_aload_n hx hb dX7_foldFor_62 rfl (lv_at hl 0 rfl) ?_
          refine lv_lload_n hx hb dX7_foldFor_63 rfl (lv_at hl 2 rfl) ?_
          refine lv_aload_n hx hb dX7_foldFor_64 rfl (lv_at hl 0 rfl) ?_
          refine c_gX7_carried hx hb hts hown hK hP (hts _ kw_339) dX7_foldFor_65 ?_
          refine lv_iload hx hb dX7_foldFor_68 (lv_at hl 4 rfl) ?_
          refine ja_lld hx hb hK hP 27 1 rfl rfl hf dX7_foldFor_70 (fun v3 hf => ?_)
          refine lv_iload_n hx hb dX7_foldFor_71 rfl (lv_at hl 1 rfl) ?_
          refine jk_l hf (fun res hres => jv_run hx hb hml hown hts hK hN c_hG c_hNW hl.1 (n := 3) (As := [.long x2, .long v3, .int x1]) (rest := []) (c_cX7_foldTwo l hap σ x2 v3 x1 res hres) hP (ci := 7) (q0 := 24) rfl rfl rfl kw_655 kw_652 kw_654 kw_19 kw_62 ⟨rfl, rfl⟩ (by decide +kernel) rfl ⟨Nat.le_of_ble_eq_true rfl, Nat.le_of_ble_eq_true rfl⟩ rfl (Nat.le_of_ble_eq_true rfl) dX7_foldFor_72) hS (fun v4 σ5 H locs hP hS hf => ?_)
          exact (p_cX7_foldFor_b75 C hap hk8) σ5 x1 x5 v4 hf H locs ls hP hS (lv_sub hl [0, 1, 4] rfl)
        · refine lv_aload_n hx hb dX7_foldFor_52 rfl (lv_at hl 0 rfl) ?_
          refine c_gX7_carried hx hb hts hown hK hP (hts _ kw_339) dX7_foldFor_53 ?_
          refine lv_iload hx hb dX7_foldFor_56 (lv_at hl 4 rfl) ?_
          refine ja_lld hx hb hK hP 27 1 rfl rfl hf dX7_foldFor_58 (fun v6 hf => ?_)
          refine lv_goto (tgt := 75) hx hb dX7_foldFor_59 (by decide) ?_
          exact (p_cX7_foldFor_b75 C hap hk8) σ x1 x5 v6 hf H locs ls hP hS (lv_sub hl [0, 1, 4] rfl)
      · refine lv_goto (tgt := 91) hx hb dX7_foldFor_44 (by decide) ?_
        exact (p_cX7_foldFor_b91 C hap hk8) σ x1 x2 x4 x5 hf H locs ls hP hS (lv_sub hl [0, 1, 2, 3, 4] rfl)
def f_cX7_foldFor_b8 : RS → Int32 → Int64 → Int32 → Int32 → Option (Int64 × RS) := kn_fix (fun _ _ _ _ _ => none) (s_cX7_foldFor_b8) FU
theorem q_cX7_foldFor_b8 {p : Program} {l : Launch} {e : Env} {s : State} {m : MethodId} {args : Array Value} {below : List Frame} {meth : Method} {c : Code} {dC : Nat → ClassId} {dI : Nat → Nat → Nat} {kA : Nat → ClassId} {ad : Nat → Nat} (C : jxc cX7_foldFor (some .long) 6 RX7 p s m args meth c dC dI kA) (hap : jw_ap 57 ad) {res : Int64 × RS} : G_cX7_foldFor_b8 p l e s m args below meth c dC dI kA ad res (f_cX7_foldFor_b8) := kn_fix_ind (G := fun F => G_cX7_foldFor_b8 p l e s m args below meth c dC dI kA ad res F) (fun _ _ _ _ _ hf => by cases hf) (fun k8 hk8 => p_cX7_foldFor_b8 C hap hk8) FU
def s_cX7_foldFor (σ : RS) (x1 : Int32) : Option (Int64 × RS) := f_cX7_foldFor_b8 σ x1 0 1 0
set_option maxRecDepth 100000 in
set_option maxHeartbeats 4000000 in
theorem p_cX7_foldFor {p : Program} {l : Launch} {e : Env} {s : State} {m : MethodId} {args : Array Value} {below : List Frame} {meth : Method} {c : Code} {dC : Nat → ClassId} {dI : Nat → Nat → Nat} {kA : Nat → ClassId} {ad : Nat → Nat} (C : jxc cX7_foldFor (some .long) 6 RX7 p s m args meth c dC dI kA) (hap : jw_ap 57 ad) {res : Int64 × RS} : G_cX7_foldFor p l e s m args below meth c dC dI kA ad res (s_cX7_foldFor) := by
  obtain ⟨hx, hb, hml, hown, hts, hr, hlocks, hK, hN⟩ := id C
  intro σ x1 hf H locs ls hP hS hl
  unfold s_cX7_foldFor at hf
  refine lv_lconst (v := 0) hx hb dX7_foldFor_0 (by decide) ?_
  refine lv_lstore_n (lv' := [(2, .long 0), (0, .ref (ad 24)), (1, .int x1)]) hx hb dX7_foldFor_1 rfl hl (by decide) rfl (fun ls hl => ?_)
  refine lv_iconst (v := 1) hx hb dX7_foldFor_2 (by decide) ?_
  refine lv_istore (lv' := [(4, .int 1), (2, .long 0), (0, .ref (ad 24)), (1, .int x1)]) hx hb dX7_foldFor_3 hl (by decide) rfl (fun ls hl => ?_)
  refine lv_iconst (v := 0) hx hb dX7_foldFor_5 (by decide) ?_
  refine lv_istore (lv' := [(5, .int 0), (4, .int 1), (2, .long 0), (0, .ref (ad 24)), (1, .int x1)]) hx hb dX7_foldFor_6 hl (by decide) rfl (fun ls hl => ?_)
  exact (q_cX7_foldFor_b8 C hap) σ x1 0 1 0 hf H locs ls hP hS (lv_sub hl [3, 4, 2, 1, 0] rfl)
theorem c_cX7_foldFor (l : Launch) {dC : Nat → ClassId} {dI : Nat → Nat → Nat} {kA : Nat → ClassId} {ad : Nat → Nat} (hap : jw_ap 57 ad) (σ : RS) (x1 : Int32) (res : Int64 × RS) (hf : s_cX7_foldFor σ x1 = some res) : jm_l l KW NW (dC, dI) vwCl (jtys kA) (jw_A 57 ad) (c_w kA ad) yX7_foldFor cX7_foldFor 6 (rm_cX7_foldFor) [.ref (ad 24), .int x1] σ res := jm_l_of (by decide) (Nat.le_of_ble_eq_true rfl) (fun p e s m below meth c C hP hS ls hl => p_cX7_foldFor C hap σ x1 hf s.heap [] ls hP hS hl)

def rm_cX7_tellMessages : Room := { frames := 1, cells := 0, slots := 0, locals := 23 }
def G_cX7_tellMessages_b9 (p : Program) (l : Launch) (e : Env) (s : State) (m : MethodId) (args : Array Value) (below : List Frame) (meth : Method) (c : Code) (dC : Nat → ClassId) (dI : Nat → Nat → Nat) (kA : Nat → ClassId) (ad : Nat → Nat) (res : RS) (F : RS → Int32 → Option (RS)) : Prop := ∀ (σ : RS) (x1 : Int32), F σ x1 = some res → ∀ (H : Heap) (locs : List Loc) (ls : Array Slot), va_P (dC, dI) vwCl (c_w kA ad σ) H → va_S (jw_A 57 ad) s.heap H locs → lv_has ls 2 [(0, .ref (ad 24)), (1, .int x1)] → W p l e rm_cX7_tellMessages s m args below meth c H locs 0 0 (c_Qu below dC dI kA ad args s res) (F0 m 9 ls [])
def G_cX7_tellMessages (p : Program) (l : Launch) (e : Env) (s : State) (m : MethodId) (args : Array Value) (below : List Frame) (meth : Method) (c : Code) (dC : Nat → ClassId) (dI : Nat → Nat → Nat) (kA : Nat → ClassId) (ad : Nat → Nat) (res : RS) (F : RS → Option (RS)) : Prop := ∀ (σ : RS), F σ = some res → ∀ (H : Heap) (locs : List Loc) (ls : Array Slot), va_P (dC, dI) vwCl (c_w kA ad σ) H → va_S (jw_A 57 ad) s.heap H locs → lv_has ls 2 [(0, .ref (ad 24))] → W p l e rm_cX7_tellMessages s m args below meth c H locs 0 0 (c_Qu below dC dI kA ad args s res) (F0 m 0 ls [])
def s_cX7_tellMessages_b9 (k9 : RS → Int32 → Option (RS)) (σ : RS) (x1 : Int32) : Option (RS) := if (rg_I σ 18) ≤ x1 then some σ else (kn_ld (rg_A σ 10) 40 x1 (fun v1 => kn_ld (rg_A σ 10) 40 x1 (fun v2 => kn_ld (rg_B σ 4) 40 v2 (fun v3 => kn_u (s_cX9_add σ v1 v3) (fun σ5 => kn_v (x1 + 1) (fun v6 => k9 σ5 v6))))))
set_option maxRecDepth 100000 in
set_option maxHeartbeats 4000000 in
theorem p_cX7_tellMessages_b9 {p : Program} {l : Launch} {e : Env} {s : State} {m : MethodId} {args : Array Value} {below : List Frame} {meth : Method} {c : Code} {dC : Nat → ClassId} {dI : Nat → Nat → Nat} {kA : Nat → ClassId} {ad : Nat → Nat} (C : jxc cX7_tellMessages none 2 RX7 p s m args meth c dC dI kA) (hap : jw_ap 57 ad) {res : RS} {k9 : RS → Int32 → Option (RS)} (hk9 : G_cX7_tellMessages_b9 p l e s m args below meth c dC dI kA ad res k9) : G_cX7_tellMessages_b9 p l e s m args below meth c dC dI kA ad res (s_cX7_tellMessages_b9 k9) := by
  obtain ⟨hx, hb, hml, hown, hts, hr, hlocks, hK, hN⟩ := id C
  intro σ x1 hf H locs ls hP hS hl
  unfold s_cX7_tellMessages_b9 at hf
  refine lv_iload_n hx hb dX7_tellMessages_9 rfl (lv_at hl 1 rfl) ?_
  refine lv_aload_n hx hb dX7_tellMessages_10 rfl (lv_at hl 0 rfl) ?_
  refine c_gX7_sent hx hb hts hown hK hP (hts _ kw_343) dX7_tellMessages_11 ?_
  refine jc_ge (tgt := 47) hx hb hf dX7_tellMessages_14 (by decide) (fun hf => ?_) (fun hf => ?_)
  · exact jr_u hx hb hr hlocks hf hP hS dX7_tellMessages_47
  · refine lv_aload_n hx hb dX7_tellMessages_17 rfl (lv_at hl 0 rfl) ?_
    refine c_gX7_told hx hb hts hown hK hP (hts _ kw_336) dX7_tellMessages_18 ?_
    refine lv_aload_n hx hb dX7_tellMessages_21 rfl (lv_at hl 0 rfl) ?_
    refine c_gX7_sentArcs hx hb hts hown hK hP (hts _ kw_337) dX7_tellMessages_22 ?_
    refine lv_iload_n hx hb dX7_tellMessages_25 rfl (lv_at hl 1 rfl) ?_
    refine ja_ild hx hb hK hP 25 0 rfl rfl hf dX7_tellMessages_26 (fun v1 hf => ?_)
    refine lv_aload_n hx hb dX7_tellMessages_27 rfl (lv_at hl 0 rfl) ?_
    refine c_gX7_carried hx hb hts hown hK hP (hts _ kw_339) dX7_tellMessages_28 ?_
    refine lv_aload_n hx hb dX7_tellMessages_31 rfl (lv_at hl 0 rfl) ?_
    refine c_gX7_sentArcs hx hb hts hown hK hP (hts _ kw_337) dX7_tellMessages_32 ?_
    refine lv_iload_n hx hb dX7_tellMessages_35 rfl (lv_at hl 1 rfl) ?_
    refine ja_ild hx hb hK hP 25 0 rfl rfl hf dX7_tellMessages_36 (fun v2 hf => ?_)
    refine ja_lld hx hb hK hP 27 1 rfl rfl hf dX7_tellMessages_37 (fun v3 hf => ?_)
    refine jk_u hf (fun res hres => jv_run hx hb hml hown hts hK hN c_hG c_hNW hl.1 (n := 2) (As := [.int v1, .long v3]) (rest := []) (c_cX9_add l hap σ v1 v3 res hres) hP (ci := 9) (q0 := 19) rfl rfl rfl kw_603 kw_687 kw_601 kw_602 kw_59 ⟨rfl, rfl⟩ (by decide +kernel) rfl ⟨Nat.le_of_ble_eq_true rfl, Nat.le_of_ble_eq_true rfl⟩ rfl (Nat.le_of_ble_eq_true rfl) dX7_tellMessages_38) hS (fun σ5 H locs hP hS hf => ?_)
    obtain ⟨v6, e_v6, hf⟩ := kn_v_e hf
    refine lv_iinc (v := v6) (lv' := [(1, .int v6), (0, .ref (ad 24))]) hx hb dX7_tellMessages_41 hl (k := 1) rfl e_v6 (by decide) rfl (fun ls hl => ?_)
    refine lv_goto (tgt := 9) hx hb dX7_tellMessages_44 (by decide) ?_
    exact hk9 σ5 v6 hf H locs ls hP hS (lv_sub hl [1, 0] rfl)
def f_cX7_tellMessages_b9 : RS → Int32 → Option (RS) := kn_fix (fun _ _ => none) (s_cX7_tellMessages_b9) FU
theorem q_cX7_tellMessages_b9 {p : Program} {l : Launch} {e : Env} {s : State} {m : MethodId} {args : Array Value} {below : List Frame} {meth : Method} {c : Code} {dC : Nat → ClassId} {dI : Nat → Nat → Nat} {kA : Nat → ClassId} {ad : Nat → Nat} (C : jxc cX7_tellMessages none 2 RX7 p s m args meth c dC dI kA) (hap : jw_ap 57 ad) {res : RS} : G_cX7_tellMessages_b9 p l e s m args below meth c dC dI kA ad res (f_cX7_tellMessages_b9) := kn_fix_ind (G := fun F => G_cX7_tellMessages_b9 p l e s m args below meth c dC dI kA ad res F) (fun _ _ hf => by cases hf) (fun k9 hk9 => p_cX7_tellMessages_b9 C hap hk9) FU
def s_cX7_tellMessages (σ : RS) : Option (RS) := kn_u (s_cX9_clear σ) (fun σ2 => f_cX7_tellMessages_b9 σ2 0)
set_option maxRecDepth 100000 in
set_option maxHeartbeats 4000000 in
theorem p_cX7_tellMessages {p : Program} {l : Launch} {e : Env} {s : State} {m : MethodId} {args : Array Value} {below : List Frame} {meth : Method} {c : Code} {dC : Nat → ClassId} {dI : Nat → Nat → Nat} {kA : Nat → ClassId} {ad : Nat → Nat} (C : jxc cX7_tellMessages none 2 RX7 p s m args meth c dC dI kA) (hap : jw_ap 57 ad) {res : RS} : G_cX7_tellMessages p l e s m args below meth c dC dI kA ad res (s_cX7_tellMessages) := by
  obtain ⟨hx, hb, hml, hown, hts, hr, hlocks, hK, hN⟩ := id C
  intro σ hf H locs ls hP hS hl
  unfold s_cX7_tellMessages at hf
  refine lv_aload_n hx hb dX7_tellMessages_0 rfl (lv_at hl 0 rfl) ?_
  refine c_gX7_told hx hb hts hown hK hP (hts _ kw_336) dX7_tellMessages_1 ?_
  refine jk_u hf (fun res hres => jv_run hx hb hml hown hts hK hN c_hG c_hNW hl.1 (n := 0) (As := []) (rest := []) (c_cX9_clear l hap σ res hres) hP (ci := 9) (q0 := 19) rfl rfl rfl kw_599 kw_686 kw_597 kw_598 kw_59 ⟨rfl, rfl⟩ (by decide +kernel) rfl ⟨Nat.le_of_ble_eq_true rfl, Nat.le_of_ble_eq_true rfl⟩ rfl (Nat.le_of_ble_eq_true rfl) dX7_tellMessages_4) hS (fun σ2 H locs hP hS hf => ?_)
  refine lv_iconst (v := 0) hx hb dX7_tellMessages_7 (by decide) ?_
  refine lv_istore_n (lv' := [(1, .int 0), (0, .ref (ad 24))]) hx hb dX7_tellMessages_8 rfl hl (by decide) rfl (fun ls hl => ?_)
  exact (q_cX7_tellMessages_b9 C hap) σ2 0 hf H locs ls hP hS (lv_sub hl [1, 0] rfl)
theorem c_cX7_tellMessages (l : Launch) {dC : Nat → ClassId} {dI : Nat → Nat → Nat} {kA : Nat → ClassId} {ad : Nat → Nat} (hap : jw_ap 57 ad) (σ : RS) (res : RS) (hf : s_cX7_tellMessages σ = some res) : jm_u l KW NW (dC, dI) vwCl (jtys kA) (jw_A 57 ad) (c_w kA ad) yX7_tellMessages cX7_tellMessages 2 (rm_cX7_tellMessages) [.ref (ad 24)] σ res := jm_u_of (by decide) (Nat.le_of_ble_eq_true rfl) (fun p e s m below meth c C hP hS ls hl => p_cX7_tellMessages C hap σ hf s.heap [] ls hP hS hl)

def rm_cX8_add : Room := { frames := 1, cells := 0, slots := 0, locals := 21 }
def G_cX8_add_b86 (p : Program) (l : Launch) (e : Env) (s : State) (m : MethodId) (args : Array Value) (below : List Frame) (meth : Method) (c : Code) (dC : Nat → ClassId) (dI : Nat → Nat → Nat) (kA : Nat → ClassId) (ad : Nat → Nat) (res : Int32 × RS) (F : RS → Int32 → Int32 → Int32 → Int32 → Int64 → Option (Int32 × RS)) : Prop := ∀ (σ : RS) (x1 : Int32) (x2 : Int32) (x3 : Int32) (x4 : Int32) (x5 : Int64), F σ x1 x2 x3 x4 x5 = some res → ∀ (H : Heap) (locs : List Loc) (ls : Array Slot), va_P (dC, dI) vwCl (c_w kA ad σ) H → va_S (jw_A 57 ad) s.heap H locs → lv_has ls 8 [(0, .ref (ad 1)), (1, .int x1), (2, .int x2), (3, .int x3), (4, .int x4), (5, .long x5)] → W p l e rm_cX8_add s m args below meth c H locs 0 0 (c_Qi below dC dI kA ad args s res) (F0 m 86 ls [])
def G_cX8_add_b70 (p : Program) (l : Launch) (e : Env) (s : State) (m : MethodId) (args : Array Value) (below : List Frame) (meth : Method) (c : Code) (dC : Nat → ClassId) (dI : Nat → Nat → Nat) (kA : Nat → ClassId) (ad : Nat → Nat) (res : Int32 × RS) (F : RS → Int32 → Int32 → Int32 → Int32 → Int64 → Option (Int32 × RS)) : Prop := ∀ (σ : RS) (x1 : Int32) (x2 : Int32) (x3 : Int32) (x4 : Int32) (x5 : Int64), F σ x1 x2 x3 x4 x5 = some res → ∀ (H : Heap) (locs : List Loc) (ls : Array Slot), va_P (dC, dI) vwCl (c_w kA ad σ) H → va_S (jw_A 57 ad) s.heap H locs → lv_has ls 8 [(0, .ref (ad 1)), (1, .int x1), (2, .int x2), (3, .int x3), (4, .int x4), (5, .long x5)] → W p l e rm_cX8_add s m args below meth c H locs 0 0 (c_Qi below dC dI kA ad args s res) (F0 m 70 ls [])
def G_cX8_add_b52 (p : Program) (l : Launch) (e : Env) (s : State) (m : MethodId) (args : Array Value) (below : List Frame) (meth : Method) (c : Code) (dC : Nat → ClassId) (dI : Nat → Nat → Nat) (kA : Nat → ClassId) (ad : Nat → Nat) (res : Int32 × RS) (F : RS → Int32 → Int32 → Int32 → Int32 → Int64 → Int32 → Option (Int32 × RS)) : Prop := ∀ (σ : RS) (x1 : Int32) (x2 : Int32) (x3 : Int32) (x4 : Int32) (x5 : Int64) (x7 : Int32), F σ x1 x2 x3 x4 x5 x7 = some res → ∀ (H : Heap) (locs : List Loc) (ls : Array Slot), va_P (dC, dI) vwCl (c_w kA ad σ) H → va_S (jw_A 57 ad) s.heap H locs → lv_has ls 8 [(0, .ref (ad 1)), (1, .int x1), (2, .int x2), (3, .int x3), (4, .int x4), (5, .long x5), (7, .int x7)] → W p l e rm_cX8_add s m args below meth c H locs 0 0 (c_Qi below dC dI kA ad args s res) (F0 m 52 ls [])
def G_cX8_add_b35 (p : Program) (l : Launch) (e : Env) (s : State) (m : MethodId) (args : Array Value) (below : List Frame) (meth : Method) (c : Code) (dC : Nat → ClassId) (dI : Nat → Nat → Nat) (kA : Nat → ClassId) (ad : Nat → Nat) (res : Int32 × RS) (F : RS → Int32 → Int32 → Int32 → Int32 → Int64 → Int32 → Option (Int32 × RS)) : Prop := ∀ (σ : RS) (x1 : Int32) (x2 : Int32) (x3 : Int32) (x4 : Int32) (x5 : Int64) (x7 : Int32), F σ x1 x2 x3 x4 x5 x7 = some res → ∀ (H : Heap) (locs : List Loc) (ls : Array Slot), va_P (dC, dI) vwCl (c_w kA ad σ) H → va_S (jw_A 57 ad) s.heap H locs → lv_has ls 8 [(0, .ref (ad 1)), (1, .int x1), (2, .int x2), (3, .int x3), (4, .int x4), (5, .long x5), (7, .int x7)] → W p l e rm_cX8_add s m args below meth c H locs 0 0 (c_Qi below dC dI kA ad args s res) (F0 m 35 ls [])
def G_cX8_add (p : Program) (l : Launch) (e : Env) (s : State) (m : MethodId) (args : Array Value) (below : List Frame) (meth : Method) (c : Code) (dC : Nat → ClassId) (dI : Nat → Nat → Nat) (kA : Nat → ClassId) (ad : Nat → Nat) (res : Int32 × RS) (F : RS → Int32 → Int32 → Int32 → Int32 → Int64 → Option (Int32 × RS)) : Prop := ∀ (σ : RS) (x1 : Int32) (x2 : Int32) (x3 : Int32) (x4 : Int32) (x5 : Int64), F σ x1 x2 x3 x4 x5 = some res → ∀ (H : Heap) (locs : List Loc) (ls : Array Slot), va_P (dC, dI) vwCl (c_w kA ad σ) H → va_S (jw_A 57 ad) s.heap H locs → lv_has ls 8 [(0, .ref (ad 1)), (1, .int x1), (2, .int x2), (3, .int x3), (4, .int x4), (5, .long x5)] → W p l e rm_cX8_add s m args below meth c H locs 0 0 (c_Qi below dC dI kA ad args s res) (F0 m 0 ls [])
def s_cX8_add_b86 (σ : RS) (x1 : Int32) (x2 : Int32) (x3 : Int32) (x4 : Int32) (x5 : Int64) : Option (Int32 × RS) := if (rg_I σ 1) < 40 then (kn_st (rs_A σ 0 (upd (rg_A σ 0) (rg_I σ 1).toNatClampNeg x1)) 40 (rg_I σ 1) (fun σ1 => kn_st (rs_A σ1 1 (upd (rg_A σ1 1) (rg_I σ1 1).toNatClampNeg x2)) 40 (rg_I σ1 1) (fun σ2 => kn_st (rs_A σ2 2 (upd (rg_A σ2 2) (rg_I σ2 1).toNatClampNeg x3)) 40 (rg_I σ2 1) (fun σ3 => kn_st (rs_A σ3 3 (upd (rg_A σ3 3) (rg_I σ3 1).toNatClampNeg x4)) 40 (rg_I σ3 1) (fun σ4 => kn_st (rs_B σ4 0 (vp_updL (rg_B σ4 0) (rg_I σ4 1).toNatClampNeg x5)) 40 (rg_I σ4 1) (fun σ5 => kn_v (rs_I σ5 1 ((rg_I σ5 1) + 1)) (fun σ6 => some ((rg_I σ6 1) - 1, σ6)))))))) else (some ((-103), σ))
set_option maxRecDepth 100000 in
set_option maxHeartbeats 4000000 in
theorem p_cX8_add_b86 {p : Program} {l : Launch} {e : Env} {s : State} {m : MethodId} {args : Array Value} {below : List Frame} {meth : Method} {c : Code} {dC : Nat → ClassId} {dI : Nat → Nat → Nat} {kA : Nat → ClassId} {ad : Nat → Nat} (C : jxc cX8_add (some .int) 8 RX8 p s m args meth c dC dI kA) (hap : jw_ap 57 ad) {res : Int32 × RS} : G_cX8_add_b86 p l e s m args below meth c dC dI kA ad res (s_cX8_add_b86) := by
  obtain ⟨hx, hb, hml, hown, hts, hr, hlocks, hK, hN⟩ := id C
  intro σ x1 x2 x3 x4 x5 hf H locs ls hP hS hl
  unfold s_cX8_add_b86 at hf
  refine lv_aload_n hx hb dX8_add_86 rfl (lv_at hl 0 rfl) ?_
  refine c_gX8_size hx hb hts hown hK hP (hts _ kw_91) dX8_add_87 ?_
  refine lv_bipush (v := 40) hx hb dX8_add_90 (by decide) ?_
  refine jc_lt (tgt := 98) hx hb hf dX8_add_92 (by decide) (fun hf => ?_) (fun hf => ?_)
  · refine lv_aload_n hx hb dX8_add_98 rfl (lv_at hl 0 rfl) ?_
    refine c_gX8_kinds hx hb hts hown hK hP (hts _ kw_81) dX8_add_99 ?_
    refine lv_aload_n hx hb dX8_add_102 rfl (lv_at hl 0 rfl) ?_
    refine c_gX8_size hx hb hts hown hK hP (hts _ kw_91) dX8_add_103 ?_
    refine lv_iload_n hx hb dX8_add_106 rfl (lv_at hl 1 rfl) ?_
    refine ja_ist hx hb hK (c_D hap σ) hP hS 2 0 rfl rfl c_sA0 hf dX8_add_107 (fun σ1 H locs hP hS hf => ?_)
    refine lv_aload_n hx hb dX8_add_108 rfl (lv_at hl 0 rfl) ?_
    refine c_gX8_partA hx hb hts hown hK hP (hts _ kw_83) dX8_add_109 ?_
    refine lv_aload_n hx hb dX8_add_112 rfl (lv_at hl 0 rfl) ?_
    refine c_gX8_size hx hb hts hown hK hP (hts _ kw_91) dX8_add_113 ?_
    refine lv_iload_n hx hb dX8_add_116 rfl (lv_at hl 2 rfl) ?_
    refine ja_ist hx hb hK (c_D hap σ1) hP hS 3 0 rfl rfl c_sA1 hf dX8_add_117 (fun σ2 H locs hP hS hf => ?_)
    refine lv_aload_n hx hb dX8_add_118 rfl (lv_at hl 0 rfl) ?_
    refine c_gX8_partB hx hb hts hown hK hP (hts _ kw_85) dX8_add_119 ?_
    refine lv_aload_n hx hb dX8_add_122 rfl (lv_at hl 0 rfl) ?_
    refine c_gX8_size hx hb hts hown hK hP (hts _ kw_91) dX8_add_123 ?_
    refine lv_iload_n hx hb dX8_add_126 rfl (lv_at hl 3 rfl) ?_
    refine ja_ist hx hb hK (c_D hap σ2) hP hS 4 0 rfl rfl c_sA2 hf dX8_add_127 (fun σ3 H locs hP hS hf => ?_)
    refine lv_aload_n hx hb dX8_add_128 rfl (lv_at hl 0 rfl) ?_
    refine c_gX8_partC hx hb hts hown hK hP (hts _ kw_87) dX8_add_129 ?_
    refine lv_aload_n hx hb dX8_add_132 rfl (lv_at hl 0 rfl) ?_
    refine c_gX8_size hx hb hts hown hK hP (hts _ kw_91) dX8_add_133 ?_
    refine lv_iload hx hb dX8_add_136 (lv_at hl 4 rfl) ?_
    refine ja_ist hx hb hK (c_D hap σ3) hP hS 5 0 rfl rfl c_sA3 hf dX8_add_138 (fun σ4 H locs hP hS hf => ?_)
    refine lv_aload_n hx hb dX8_add_139 rfl (lv_at hl 0 rfl) ?_
    refine c_gX8_numbers hx hb hts hown hK hP (hts _ kw_89) dX8_add_140 ?_
    refine lv_aload_n hx hb dX8_add_143 rfl (lv_at hl 0 rfl) ?_
    refine c_gX8_size hx hb hts hown hK hP (hts _ kw_91) dX8_add_144 ?_
    refine lv_lload hx hb dX8_add_147 (lv_at hl 5 rfl) ?_
    refine ja_lst hx hb hK (c_D hap σ4) hP hS 6 1 rfl rfl c_sB0 hf dX8_add_149 (fun σ5 H locs hP hS hf => ?_)
    refine lv_aload_n hx hb dX8_add_150 rfl (lv_at hl 0 rfl) ?_
    refine lv_dup hx hb dX8_add_151 rfl ?_
    refine c_gX8_size hx hb hts hown hK hP (hts _ kw_91) dX8_add_152 ?_
    refine lv_iconst (v := 1) hx hb dX8_add_155 (by decide) ?_
    refine lv_iadd hx hb dX8_add_156 ?_
    refine c_pX8_size hx hb hts hown hK hap hP hS hf (hts _ kw_91) dX8_add_157 (fun σ6 H locs hP hS hf => ?_)
    refine lv_aload_n hx hb dX8_add_160 rfl (lv_at hl 0 rfl) ?_
    refine c_gX8_size hx hb hts hown hK hP (hts _ kw_91) dX8_add_161 ?_
    refine lv_iconst (v := 1) hx hb dX8_add_164 (by decide) ?_
    refine lv_isub hx hb dX8_add_165 ?_
    exact jr_i hx hb hr hlocks hf rfl hP hS dX8_add_166
  · refine lv_bipush (v := (-103)) hx hb dX8_add_95 (by decide) ?_
    exact jr_i hx hb hr hlocks hf rfl hP hS dX8_add_97
def s_cX8_add_b70 (σ : RS) (x1 : Int32) (x2 : Int32) (x3 : Int32) (x4 : Int32) (x5 : Int64) : Option (Int32 × RS) := if x1 = 1 then (kn_i (s_cX11_isState σ x5) (fun v1 σ2 => if v1 = 0 then (some ((-102), σ2)) else (s_cX8_add_b86 σ2 x1 x2 x3 x4 x5))) else (s_cX8_add_b86 σ x1 x2 x3 x4 x5)
set_option maxRecDepth 100000 in
set_option maxHeartbeats 4000000 in
theorem p_cX8_add_b70 {p : Program} {l : Launch} {e : Env} {s : State} {m : MethodId} {args : Array Value} {below : List Frame} {meth : Method} {c : Code} {dC : Nat → ClassId} {dI : Nat → Nat → Nat} {kA : Nat → ClassId} {ad : Nat → Nat} (C : jxc cX8_add (some .int) 8 RX8 p s m args meth c dC dI kA) (hap : jw_ap 57 ad) {res : Int32 × RS} : G_cX8_add_b70 p l e s m args below meth c dC dI kA ad res (s_cX8_add_b70) := by
  obtain ⟨hx, hb, hml, hown, hts, hr, hlocks, hK, hN⟩ := id C
  intro σ x1 x2 x3 x4 x5 hf H locs ls hP hS hl
  unfold s_cX8_add_b70 at hf
  refine lv_iload_n hx hb dX8_add_70 rfl (lv_at hl 1 rfl) ?_
  refine lv_iconst (v := 1) hx hb dX8_add_71 (by decide) ?_
  refine jc_ne (tgt := 86) hx hb hf dX8_add_72 (by decide) (fun hf => ?_) (fun hf => ?_)
  · exact (p_cX8_add_b86 C hap) σ x1 x2 x3 x4 x5 hf H locs ls hP hS (lv_sub hl [0, 1, 2, 3, 4, 5] rfl)
  · refine lv_lload hx hb dX8_add_75 (lv_at hl 5 rfl) ?_
    refine jk_i hf (fun res hres => js_runN hx hb hml hown hts hK hN c_hG c_hNW hl.1 (n := 1) (As := [.long x5]) (rest := []) (c_cX11_isState l hap σ x5 res hres) hP kw_460 nw_458 kw_459 kw_52 ⟨rfl, rfl⟩ (by decide +kernel) rfl ⟨Nat.le_of_ble_eq_true rfl, Nat.le_of_ble_eq_true rfl⟩ rfl (Nat.le_of_ble_eq_true rfl) dX8_add_77) hS (fun v1 σ2 H locs hP hS hf => ?_)
    refine jb_ne (tgt := 86) hx hb hf dX8_add_80 (by decide) (fun hf => ?_) (fun hf => ?_)
    · exact (p_cX8_add_b86 C hap) σ2 x1 x2 x3 x4 x5 hf H locs ls hP hS (lv_sub hl [0, 1, 2, 3, 4, 5] rfl)
    · refine lv_bipush (v := (-102)) hx hb dX8_add_83 (by decide) ?_
      exact jr_i hx hb hr hlocks hf rfl hP hS dX8_add_85
def s_cX8_add_b52 (σ : RS) (x1 : Int32) (x2 : Int32) (x3 : Int32) (x4 : Int32) (x5 : Int64) (x7 : Int32) : Option (Int32 × RS) := if x7 ≤ 2 then (s_cX8_add_b70 σ x1 x2 x3 x4 x5) else (kn_i (s_cX8_has σ x4) (fun v1 σ2 => if v1 = 0 then (some ((-101), σ2)) else (s_cX8_add_b70 σ2 x1 x2 x3 x4 x5)))
set_option maxRecDepth 100000 in
set_option maxHeartbeats 4000000 in
theorem p_cX8_add_b52 {p : Program} {l : Launch} {e : Env} {s : State} {m : MethodId} {args : Array Value} {below : List Frame} {meth : Method} {c : Code} {dC : Nat → ClassId} {dI : Nat → Nat → Nat} {kA : Nat → ClassId} {ad : Nat → Nat} (C : jxc cX8_add (some .int) 8 RX8 p s m args meth c dC dI kA) (hap : jw_ap 57 ad) {res : Int32 × RS} : G_cX8_add_b52 p l e s m args below meth c dC dI kA ad res (s_cX8_add_b52) := by
  obtain ⟨hx, hb, hml, hown, hts, hr, hlocks, hK, hN⟩ := id C
  intro σ x1 x2 x3 x4 x5 x7 hf H locs ls hP hS hl
  unfold s_cX8_add_b52 at hf
  refine lv_iload hx hb dX8_add_52 (lv_at hl 6 rfl) ?_
  refine lv_iconst (v := 2) hx hb dX8_add_54 (by decide) ?_
  refine jc_le (tgt := 70) hx hb hf dX8_add_55 (by decide) (fun hf => ?_) (fun hf => ?_)
  · exact (p_cX8_add_b70 C hap) σ x1 x2 x3 x4 x5 hf H locs ls hP hS (lv_sub hl [0, 1, 2, 3, 4, 5] rfl)
  · refine lv_aload_n hx hb dX8_add_58 rfl (lv_at hl 0 rfl) ?_
    refine lv_iload hx hb dX8_add_59 (lv_at hl 4 rfl) ?_
    refine jk_i hf (fun res hres => jv_run hx hb hml hown hts hK hN c_hG c_hNW hl.1 (n := 1) (As := [.int x4]) (rest := []) (c_cX8_has l hap σ x4 res hres) hP (ci := 8) (q0 := 1) rfl rfl rfl kw_457 kw_454 kw_455 kw_456 kw_53 ⟨rfl, rfl⟩ (by decide +kernel) rfl ⟨Nat.le_of_ble_eq_true rfl, Nat.le_of_ble_eq_true rfl⟩ rfl (Nat.le_of_ble_eq_true rfl) dX8_add_61) hS (fun v1 σ2 H locs hP hS hf => ?_)
    refine jb_ne (tgt := 70) hx hb hf dX8_add_64 (by decide) (fun hf => ?_) (fun hf => ?_)
    · exact (p_cX8_add_b70 C hap) σ2 x1 x2 x3 x4 x5 hf H locs ls hP hS (lv_sub hl [0, 1, 2, 3, 4, 5] rfl)
    · refine lv_bipush (v := (-101)) hx hb dX8_add_67 (by decide) ?_
      exact jr_i hx hb hr hlocks hf rfl hP hS dX8_add_69
def s_cX8_add_b35 (σ : RS) (x1 : Int32) (x2 : Int32) (x3 : Int32) (x4 : Int32) (x5 : Int64) (x7 : Int32) : Option (Int32 × RS) := if x7 ≤ 1 then (s_cX8_add_b52 σ x1 x2 x3 x4 x5 x7) else (kn_i (s_cX8_has σ x3) (fun v1 σ2 => if v1 = 0 then (some ((-101), σ2)) else (s_cX8_add_b52 σ2 x1 x2 x3 x4 x5 x7)))
set_option maxRecDepth 100000 in
set_option maxHeartbeats 4000000 in
theorem p_cX8_add_b35 {p : Program} {l : Launch} {e : Env} {s : State} {m : MethodId} {args : Array Value} {below : List Frame} {meth : Method} {c : Code} {dC : Nat → ClassId} {dI : Nat → Nat → Nat} {kA : Nat → ClassId} {ad : Nat → Nat} (C : jxc cX8_add (some .int) 8 RX8 p s m args meth c dC dI kA) (hap : jw_ap 57 ad) {res : Int32 × RS} : G_cX8_add_b35 p l e s m args below meth c dC dI kA ad res (s_cX8_add_b35) := by
  obtain ⟨hx, hb, hml, hown, hts, hr, hlocks, hK, hN⟩ := id C
  intro σ x1 x2 x3 x4 x5 x7 hf H locs ls hP hS hl
  unfold s_cX8_add_b35 at hf
  refine lv_iload hx hb dX8_add_35 (lv_at hl 6 rfl) ?_
  refine lv_iconst (v := 1) hx hb dX8_add_37 (by decide) ?_
  refine jc_le (tgt := 52) hx hb hf dX8_add_38 (by decide) (fun hf => ?_) (fun hf => ?_)
  · exact (p_cX8_add_b52 C hap) σ x1 x2 x3 x4 x5 x7 hf H locs ls hP hS (lv_sub hl [0, 1, 2, 3, 4, 5, 6] rfl)
  · refine lv_aload_n hx hb dX8_add_41 rfl (lv_at hl 0 rfl) ?_
    refine lv_iload_n hx hb dX8_add_42 rfl (lv_at hl 3 rfl) ?_
    refine jk_i hf (fun res hres => jv_run hx hb hml hown hts hK hN c_hG c_hNW hl.1 (n := 1) (As := [.int x3]) (rest := []) (c_cX8_has l hap σ x3 res hres) hP (ci := 8) (q0 := 1) rfl rfl rfl kw_457 kw_454 kw_455 kw_456 kw_53 ⟨rfl, rfl⟩ (by decide +kernel) rfl ⟨Nat.le_of_ble_eq_true rfl, Nat.le_of_ble_eq_true rfl⟩ rfl (Nat.le_of_ble_eq_true rfl) dX8_add_43) hS (fun v1 σ2 H locs hP hS hf => ?_)
    refine jb_ne (tgt := 52) hx hb hf dX8_add_46 (by decide) (fun hf => ?_) (fun hf => ?_)
    · exact (p_cX8_add_b52 C hap) σ2 x1 x2 x3 x4 x5 x7 hf H locs ls hP hS (lv_sub hl [0, 1, 2, 3, 4, 5, 6] rfl)
    · refine lv_bipush (v := (-101)) hx hb dX8_add_49 (by decide) ?_
      exact jr_i hx hb hr hlocks hf rfl hP hS dX8_add_51
def s_cX8_add (σ : RS) (x1 : Int32) (x2 : Int32) (x3 : Int32) (x4 : Int32) (x5 : Int64) : Option (Int32 × RS) := if x1 < 0 then (some ((-102), σ)) else (if x1 ≤ 17 then (kn_i (s_cX8_partsOf σ x1) (fun v1 σ2 => if v1 ≤ 0 then (s_cX8_add_b35 σ2 x1 x2 x3 x4 x5 v1) else (kn_i (s_cX8_has σ2 x2) (fun v3 σ4 => if v3 = 0 then (some ((-101), σ4)) else (s_cX8_add_b35 σ4 x1 x2 x3 x4 x5 v1))))) else (some ((-102), σ)))
set_option maxRecDepth 100000 in
set_option maxHeartbeats 4000000 in
theorem p_cX8_add {p : Program} {l : Launch} {e : Env} {s : State} {m : MethodId} {args : Array Value} {below : List Frame} {meth : Method} {c : Code} {dC : Nat → ClassId} {dI : Nat → Nat → Nat} {kA : Nat → ClassId} {ad : Nat → Nat} (C : jxc cX8_add (some .int) 8 RX8 p s m args meth c dC dI kA) (hap : jw_ap 57 ad) {res : Int32 × RS} : G_cX8_add p l e s m args below meth c dC dI kA ad res (s_cX8_add) := by
  obtain ⟨hx, hb, hml, hown, hts, hr, hlocks, hK, hN⟩ := id C
  intro σ x1 x2 x3 x4 x5 hf H locs ls hP hS hl
  unfold s_cX8_add at hf
  refine lv_iload_n hx hb dX8_add_0 rfl (lv_at hl 1 rfl) ?_
  refine jb_lt (tgt := 10) hx hb hf dX8_add_1 (by decide) (fun hf => ?_) (fun hf => ?_)
  · refine lv_bipush (v := (-102)) hx hb dX8_add_10 (by decide) ?_
    exact jr_i hx hb hr hlocks hf rfl hP hS dX8_add_12
  · refine lv_iload_n hx hb dX8_add_4 rfl (lv_at hl 1 rfl) ?_
    refine lv_bipush (v := 17) hx hb dX8_add_5 (by decide) ?_
    refine jc_le (tgt := 13) hx hb hf dX8_add_7 (by decide) (fun hf => ?_) (fun hf => ?_)
    · refine lv_iload_n hx hb dX8_add_13 rfl (lv_at hl 1 rfl) ?_
      refine jk_i hf (fun res hres => js_run hx hb hml hown hts hK hN c_hG c_hNW hl.1 (n := 1) (As := [.int x1]) (rest := []) (c_cX8_partsOf l hap σ x1 res hres) hP kw_453 kw_451 kw_452 kw_53 ⟨rfl, rfl⟩ (by decide +kernel) rfl ⟨Nat.le_of_ble_eq_true rfl, Nat.le_of_ble_eq_true rfl⟩ rfl (Nat.le_of_ble_eq_true rfl) dX8_add_14) hS (fun v1 σ2 H locs hP hS hf => ?_)
      refine lv_istore (lv' := [(7, .int v1), (0, .ref (ad 1)), (1, .int x1), (2, .int x2), (3, .int x3), (4, .int x4), (5, .long x5)]) hx hb dX8_add_17 hl (by decide) rfl (fun ls hl => ?_)
      refine lv_iload hx hb dX8_add_19 (lv_at hl 0 rfl) ?_
      refine jb_le (tgt := 35) hx hb hf dX8_add_21 (by decide) (fun hf => ?_) (fun hf => ?_)
      · exact (p_cX8_add_b35 C hap) σ2 x1 x2 x3 x4 x5 v1 hf H locs ls hP hS (lv_sub hl [1, 2, 3, 4, 5, 6, 0] rfl)
      · refine lv_aload_n hx hb dX8_add_24 rfl (lv_at hl 1 rfl) ?_
        refine lv_iload_n hx hb dX8_add_25 rfl (lv_at hl 3 rfl) ?_
        refine jk_i hf (fun res hres => jv_run hx hb hml hown hts hK hN c_hG c_hNW hl.1 (n := 1) (As := [.int x2]) (rest := []) (c_cX8_has l hap σ2 x2 res hres) hP (ci := 8) (q0 := 1) rfl rfl rfl kw_457 kw_454 kw_455 kw_456 kw_53 ⟨rfl, rfl⟩ (by decide +kernel) rfl ⟨Nat.le_of_ble_eq_true rfl, Nat.le_of_ble_eq_true rfl⟩ rfl (Nat.le_of_ble_eq_true rfl) dX8_add_26) hS (fun v3 σ4 H locs hP hS hf => ?_)
        refine jb_ne (tgt := 35) hx hb hf dX8_add_29 (by decide) (fun hf => ?_) (fun hf => ?_)
        · exact (p_cX8_add_b35 C hap) σ4 x1 x2 x3 x4 x5 v1 hf H locs ls hP hS (lv_sub hl [1, 2, 3, 4, 5, 6, 0] rfl)
        · refine lv_bipush (v := (-101)) hx hb dX8_add_32 (by decide) ?_
          exact jr_i hx hb hr hlocks hf rfl hP hS dX8_add_34
    · refine lv_bipush (v := (-102)) hx hb dX8_add_10 (by decide) ?_
      exact jr_i hx hb hr hlocks hf rfl hP hS dX8_add_12
theorem c_cX8_add (l : Launch) {dC : Nat → ClassId} {dI : Nat → Nat → Nat} {kA : Nat → ClassId} {ad : Nat → Nat} (hap : jw_ap 57 ad) (σ : RS) (x1 : Int32) (x2 : Int32) (x3 : Int32) (x4 : Int32) (x5 : Int64) (res : Int32 × RS) (hf : s_cX8_add σ x1 x2 x3 x4 x5 = some res) : jm_i l KW NW (dC, dI) vwCl (jtys kA) (jw_A 57 ad) (c_w kA ad) yX8_add cX8_add 8 .int (rm_cX8_add) [.ref (ad 1), .int x1, .int x2, .int x3, .int x4, .long x5] σ res := jm_i_of (by decide) (Nat.le_of_ble_eq_true rfl) (fun p e s m below meth c C hP hS ls hl => p_cX8_add C hap σ x1 x2 x3 x4 x5 hf s.heap [] ls hP hS hl)

def rm_cX11_term : Room := { frames := 2, cells := 0, slots := 0, locals := 48 }
def G_cX11_term (p : Program) (l : Launch) (e : Env) (s : State) (m : MethodId) (args : Array Value) (below : List Frame) (meth : Method) (c : Code) (dC : Nat → ClassId) (dI : Nat → Nat → Nat) (kA : Nat → ClassId) (ad : Nat → Nat) (res : Int32 × RS) (F : RS → Int32 → Int32 → Int32 → Int32 → Int64 → Option (Int32 × RS)) : Prop := ∀ (σ : RS) (x1 : Int32) (x2 : Int32) (x3 : Int32) (x4 : Int32) (x5 : Int64), F σ x1 x2 x3 x4 x5 = some res → ∀ (H : Heap) (locs : List Loc) (ls : Array Slot), va_P (dC, dI) vwCl (c_w kA ad σ) H → va_S (jw_A 57 ad) s.heap H locs → lv_has ls 7 [(0, .ref (ad 0)), (1, .int x1), (2, .int x2), (3, .int x3), (4, .int x4), (5, .long x5)] → W p l e rm_cX11_term s m args below meth c H locs 0 0 (c_Qi below dC dI kA ad args s res) (F0 m 0 ls [])
def s_cX11_term (σ : RS) (x1 : Int32) (x2 : Int32) (x3 : Int32) (x4 : Int32) (x5 : Int64) : Option (Int32 × RS) := kn_i (s_cX8_add σ x1 x2 x3 x4 x5) (fun v1 σ2 => some (v1, σ2))
set_option maxRecDepth 100000 in
set_option maxHeartbeats 4000000 in
theorem p_cX11_term {p : Program} {l : Launch} {e : Env} {s : State} {m : MethodId} {args : Array Value} {below : List Frame} {meth : Method} {c : Code} {dC : Nat → ClassId} {dI : Nat → Nat → Nat} {kA : Nat → ClassId} {ad : Nat → Nat} (C : jxc cX11_term (some .int) 7 RX11 p s m args meth c dC dI kA) (hap : jw_ap 57 ad) {res : Int32 × RS} : G_cX11_term p l e s m args below meth c dC dI kA ad res (s_cX11_term) := by
  obtain ⟨hx, hb, hml, hown, hts, hr, hlocks, hK, hN⟩ := id C
  intro σ x1 x2 x3 x4 x5 hf H locs ls hP hS hl
  unfold s_cX11_term at hf
  refine lv_aload_n hx hb dX11_term_0 rfl (lv_at hl 0 rfl) ?_
  refine c_gX11_terms hx hb hts hown hK hP (hts _ kw_409) dX11_term_1 ?_
  refine lv_iload_n hx hb dX11_term_4 rfl (lv_at hl 1 rfl) ?_
  refine lv_iload_n hx hb dX11_term_5 rfl (lv_at hl 2 rfl) ?_
  refine lv_iload_n hx hb dX11_term_6 rfl (lv_at hl 3 rfl) ?_
  refine lv_iload hx hb dX11_term_7 (lv_at hl 4 rfl) ?_
  refine lv_lload hx hb dX11_term_9 (lv_at hl 5 rfl) ?_
  refine jk_i hf (fun res hres => jv_run hx hb hml hown hts hK hN c_hG c_hNW hl.1 (n := 5) (As := [.int x1, .int x2, .int x3, .int x4, .long x5]) (rest := []) (c_cX8_add l hap σ x1 x2 x3 x4 x5 res hres) hP (ci := 8) (q0 := 1) rfl rfl rfl kw_450 kw_447 kw_448 kw_449 kw_53 ⟨rfl, rfl⟩ (by decide +kernel) rfl ⟨Nat.le_of_ble_eq_true rfl, Nat.le_of_ble_eq_true rfl⟩ rfl (Nat.le_of_ble_eq_true rfl) dX11_term_11) hS (fun v1 σ2 H locs hP hS hf => ?_)
  exact jr_i hx hb hr hlocks hf rfl hP hS dX11_term_14
theorem c_cX11_term (l : Launch) {dC : Nat → ClassId} {dI : Nat → Nat → Nat} {kA : Nat → ClassId} {ad : Nat → Nat} (hap : jw_ap 57 ad) (σ : RS) (x1 : Int32) (x2 : Int32) (x3 : Int32) (x4 : Int32) (x5 : Int64) (res : Int32 × RS) (hf : s_cX11_term σ x1 x2 x3 x4 x5 = some res) : jm_i l KW NW (dC, dI) vwCl (jtys kA) (jw_A 57 ad) (c_w kA ad) yX11_term cX11_term 7 .int (rm_cX11_term) [.ref (ad 0), .int x1, .int x2, .int x3, .int x4, .long x5] σ res := jm_i_of (by decide) (Nat.le_of_ble_eq_true rfl) (fun p e s m below meth c C hP hS ls hl => p_cX11_term C hap σ x1 x2 x3 x4 x5 hf s.heap [] ls hP hS hl)

def rm_cX11_node : Room := { frames := 2, cells := 0, slots := 0, locals := 41 }
def G_cX11_node (p : Program) (l : Launch) (e : Env) (s : State) (m : MethodId) (args : Array Value) (below : List Frame) (meth : Method) (c : Code) (dC : Nat → ClassId) (dI : Nat → Nat → Nat) (kA : Nat → ClassId) (ad : Nat → Nat) (res : Int32 × RS) (F : RS → Option (Int32 × RS)) : Prop := ∀ (σ : RS), F σ = some res → ∀ (H : Heap) (locs : List Loc) (ls : Array Slot), va_P (dC, dI) vwCl (c_w kA ad σ) H → va_S (jw_A 57 ad) s.heap H locs → lv_has ls 1 [(0, .ref (ad 0))] → W p l e rm_cX11_node s m args below meth c H locs 0 0 (c_Qi below dC dI kA ad args s res) (F0 m 0 ls [])
def s_cX11_node (σ : RS) : Option (Int32 × RS) := kn_i (s_cX10_addNode σ) (fun v1 σ2 => kn_i (s_cX11_changed σ2 v1) (fun v3 σ4 => some (v3, σ4)))
set_option maxRecDepth 100000 in
set_option maxHeartbeats 4000000 in
theorem p_cX11_node {p : Program} {l : Launch} {e : Env} {s : State} {m : MethodId} {args : Array Value} {below : List Frame} {meth : Method} {c : Code} {dC : Nat → ClassId} {dI : Nat → Nat → Nat} {kA : Nat → ClassId} {ad : Nat → Nat} (C : jxc cX11_node (some .int) 1 RX11 p s m args meth c dC dI kA) (hap : jw_ap 57 ad) {res : Int32 × RS} : G_cX11_node p l e s m args below meth c dC dI kA ad res (s_cX11_node) := by
  obtain ⟨hx, hb, hml, hown, hts, hr, hlocks, hK, hN⟩ := id C
  intro σ hf H locs ls hP hS hl
  unfold s_cX11_node at hf
  refine lv_aload_n hx hb dX11_node_0 rfl (lv_at hl 0 rfl) ?_
  refine lv_aload_n hx hb dX11_node_1 rfl (lv_at hl 0 rfl) ?_
  refine c_gX11_web hx hb hts hown hK hP (hts _ kw_410) dX11_node_2 ?_
  refine jk_i hf (fun res hres => jv_run hx hb hml hown hts hK hN c_hG c_hNW hl.1 (n := 0) (As := []) (rest := [.ref (ad 0)]) (c_cX10_addNode l hap σ res hres) hP (ci := 10) (q0 := 7) rfl rfl rfl kw_469 kw_466 kw_467 kw_468 kw_54 ⟨rfl, rfl⟩ (by decide +kernel) rfl ⟨Nat.le_of_ble_eq_true rfl, Nat.le_of_ble_eq_true rfl⟩ rfl (Nat.le_of_ble_eq_true rfl) dX11_node_5) hS (fun v1 σ2 H locs hP hS hf => ?_)
  refine jk_i hf (fun res hres => jv_run hx hb hml hown hts hK hN c_hG c_hNW hl.1 (n := 1) (As := [.int v1]) (rest := []) (c_cX11_changed l hap σ2 v1 res hres) hP (ci := 11) (q0 := 0) rfl rfl rfl kw_473 kw_470 kw_472 kw_0 kw_52 ⟨rfl, rfl⟩ (by decide +kernel) rfl ⟨Nat.le_of_ble_eq_true rfl, Nat.le_of_ble_eq_true rfl⟩ rfl (Nat.le_of_ble_eq_true rfl) dX11_node_8) hS (fun v3 σ4 H locs hP hS hf => ?_)
  exact jr_i hx hb hr hlocks hf rfl hP hS dX11_node_11
theorem c_cX11_node (l : Launch) {dC : Nat → ClassId} {dI : Nat → Nat → Nat} {kA : Nat → ClassId} {ad : Nat → Nat} (hap : jw_ap 57 ad) (σ : RS) (res : Int32 × RS) (hf : s_cX11_node σ = some res) : jm_i l KW NW (dC, dI) vwCl (jtys kA) (jw_A 57 ad) (c_w kA ad) yX11_node cX11_node 1 .int (rm_cX11_node) [.ref (ad 0)] σ res := jm_i_of (by decide) (Nat.le_of_ble_eq_true rfl) (fun p e s m below meth c C hP hS ls hl => p_cX11_node C hap σ hf s.heap [] ls hP hS hl)

def rm_cX11_arc : Room := { frames := 2, cells := 0, slots := 0, locals := 45 }
def G_cX11_arc (p : Program) (l : Launch) (e : Env) (s : State) (m : MethodId) (args : Array Value) (below : List Frame) (meth : Method) (c : Code) (dC : Nat → ClassId) (dI : Nat → Nat → Nat) (kA : Nat → ClassId) (ad : Nat → Nat) (res : Int32 × RS) (F : RS → Int32 → Int32 → Int64 → Option (Int32 × RS)) : Prop := ∀ (σ : RS) (x1 : Int32) (x2 : Int32) (x3 : Int64), F σ x1 x2 x3 = some res → ∀ (H : Heap) (locs : List Loc) (ls : Array Slot), va_P (dC, dI) vwCl (c_w kA ad σ) H → va_S (jw_A 57 ad) s.heap H locs → lv_has ls 5 [(0, .ref (ad 0)), (1, .int x1), (2, .int x2), (3, .long x3)] → W p l e rm_cX11_arc s m args below meth c H locs 0 0 (c_Qi below dC dI kA ad args s res) (F0 m 0 ls [])
def s_cX11_arc (σ : RS) (x1 : Int32) (x2 : Int32) (x3 : Int64) : Option (Int32 × RS) := kn_i (s_cX10_addArc σ x1 x2 x3) (fun v1 σ2 => kn_i (s_cX11_changed σ2 v1) (fun v3 σ4 => some (v3, σ4)))
set_option maxRecDepth 100000 in
set_option maxHeartbeats 4000000 in
theorem p_cX11_arc {p : Program} {l : Launch} {e : Env} {s : State} {m : MethodId} {args : Array Value} {below : List Frame} {meth : Method} {c : Code} {dC : Nat → ClassId} {dI : Nat → Nat → Nat} {kA : Nat → ClassId} {ad : Nat → Nat} (C : jxc cX11_arc (some .int) 5 RX11 p s m args meth c dC dI kA) (hap : jw_ap 57 ad) {res : Int32 × RS} : G_cX11_arc p l e s m args below meth c dC dI kA ad res (s_cX11_arc) := by
  obtain ⟨hx, hb, hml, hown, hts, hr, hlocks, hK, hN⟩ := id C
  intro σ x1 x2 x3 hf H locs ls hP hS hl
  unfold s_cX11_arc at hf
  refine lv_aload_n hx hb dX11_arc_0 rfl (lv_at hl 0 rfl) ?_
  refine lv_aload_n hx hb dX11_arc_1 rfl (lv_at hl 0 rfl) ?_
  refine c_gX11_web hx hb hts hown hK hP (hts _ kw_410) dX11_arc_2 ?_
  refine lv_iload_n hx hb dX11_arc_5 rfl (lv_at hl 1 rfl) ?_
  refine lv_iload_n hx hb dX11_arc_6 rfl (lv_at hl 2 rfl) ?_
  refine lv_lload_n hx hb dX11_arc_7 rfl (lv_at hl 3 rfl) ?_
  refine jk_i hf (fun res hres => jv_run hx hb hml hown hts hK hN c_hG c_hNW hl.1 (n := 3) (As := [.int x1, .int x2, .long x3]) (rest := [.ref (ad 0)]) (c_cX10_addArc l hap σ x1 x2 x3 res hres) hP (ci := 10) (q0 := 7) rfl rfl rfl kw_485 kw_482 kw_483 kw_484 kw_54 ⟨rfl, rfl⟩ (by decide +kernel) rfl ⟨Nat.le_of_ble_eq_true rfl, Nat.le_of_ble_eq_true rfl⟩ rfl (Nat.le_of_ble_eq_true rfl) dX11_arc_8) hS (fun v1 σ2 H locs hP hS hf => ?_)
  refine jk_i hf (fun res hres => jv_run hx hb hml hown hts hK hN c_hG c_hNW hl.1 (n := 1) (As := [.int v1]) (rest := []) (c_cX11_changed l hap σ2 v1 res hres) hP (ci := 11) (q0 := 0) rfl rfl rfl kw_473 kw_470 kw_472 kw_0 kw_52 ⟨rfl, rfl⟩ (by decide +kernel) rfl ⟨Nat.le_of_ble_eq_true rfl, Nat.le_of_ble_eq_true rfl⟩ rfl (Nat.le_of_ble_eq_true rfl) dX11_arc_11) hS (fun v3 σ4 H locs hP hS hf => ?_)
  exact jr_i hx hb hr hlocks hf rfl hP hS dX11_arc_14
theorem c_cX11_arc (l : Launch) {dC : Nat → ClassId} {dI : Nat → Nat → Nat} {kA : Nat → ClassId} {ad : Nat → Nat} (hap : jw_ap 57 ad) (σ : RS) (x1 : Int32) (x2 : Int32) (x3 : Int64) (res : Int32 × RS) (hf : s_cX11_arc σ x1 x2 x3 = some res) : jm_i l KW NW (dC, dI) vwCl (jtys kA) (jw_A 57 ad) (c_w kA ad) yX11_arc cX11_arc 5 .int (rm_cX11_arc) [.ref (ad 0), .int x1, .int x2, .long x3] σ res := jm_i_of (by decide) (Nat.le_of_ble_eq_true rfl) (fun p e s m below meth c C hP hS ls hl => p_cX11_arc C hap σ x1 x2 x3 hf s.heap [] ls hP hS hl)

def rm_cX11_put : Room := { frames := 2, cells := 0, slots := 0, locals := 41 }
def G_cX11_put (p : Program) (l : Launch) (e : Env) (s : State) (m : MethodId) (args : Array Value) (below : List Frame) (meth : Method) (c : Code) (dC : Nat → ClassId) (dI : Nat → Nat → Nat) (kA : Nat → ClassId) (ad : Nat → Nat) (res : Int32 × RS) (F : RS → Int32 → Int32 → Int64 → Option (Int32 × RS)) : Prop := ∀ (σ : RS) (x1 : Int32) (x2 : Int32) (x3 : Int64), F σ x1 x2 x3 = some res → ∀ (H : Heap) (locs : List Loc) (ls : Array Slot), va_P (dC, dI) vwCl (c_w kA ad σ) H → va_S (jw_A 57 ad) s.heap H locs → lv_has ls 5 [(0, .ref (ad 0)), (1, .int x1), (2, .int x2), (3, .long x3)] → W p l e rm_cX11_put s m args below meth c H locs 0 0 (c_Qi below dC dI kA ad args s res) (F0 m 0 ls [])
def s_cX11_put (σ : RS) (x1 : Int32) (x2 : Int32) (x3 : Int64) : Option (Int32 × RS) := kn_i (s_cX10_hasNode σ x1) (fun v1 σ2 => if v1 = 0 then (some ((-101), σ2)) else (kn_i (s_cX11_isState σ2 x2.toInt64) (fun v3 σ4 => if v3 = 0 then (some ((-102), σ4)) else (kn_st (rs_B σ4 1 (vp_updL (rg_B σ4 1) ((x1 * 3) + x2).toNatClampNeg x3)) 36 ((x1 * 3) + x2) (fun σ5 => kn_i (s_cX11_changed σ5 1) (fun v6 σ7 => some (v6, σ7)))))))
set_option maxRecDepth 100000 in
set_option maxHeartbeats 4000000 in
theorem p_cX11_put {p : Program} {l : Launch} {e : Env} {s : State} {m : MethodId} {args : Array Value} {below : List Frame} {meth : Method} {c : Code} {dC : Nat → ClassId} {dI : Nat → Nat → Nat} {kA : Nat → ClassId} {ad : Nat → Nat} (C : jxc cX11_put (some .int) 5 RX11 p s m args meth c dC dI kA) (hap : jw_ap 57 ad) {res : Int32 × RS} : G_cX11_put p l e s m args below meth c dC dI kA ad res (s_cX11_put) := by
  obtain ⟨hx, hb, hml, hown, hts, hr, hlocks, hK, hN⟩ := id C
  intro σ x1 x2 x3 hf H locs ls hP hS hl
  unfold s_cX11_put at hf
  refine lv_aload_n hx hb dX11_put_0 rfl (lv_at hl 0 rfl) ?_
  refine c_gX11_web hx hb hts hown hK hP (hts _ kw_410) dX11_put_1 ?_
  refine lv_iload_n hx hb dX11_put_4 rfl (lv_at hl 1 rfl) ?_
  refine jk_i hf (fun res hres => jv_run hx hb hml hown hts hK hN c_hG c_hNW hl.1 (n := 1) (As := [.int x1]) (rest := []) (c_cX10_hasNode l hap σ x1 res hres) hP (ci := 10) (q0 := 7) rfl rfl rfl kw_489 kw_494 kw_487 kw_488 kw_54 ⟨rfl, rfl⟩ (by decide +kernel) rfl ⟨Nat.le_of_ble_eq_true rfl, Nat.le_of_ble_eq_true rfl⟩ rfl (Nat.le_of_ble_eq_true rfl) dX11_put_5) hS (fun v1 σ2 H locs hP hS hf => ?_)
  refine jb_ne (tgt := 14) hx hb hf dX11_put_8 (by decide) (fun hf => ?_) (fun hf => ?_)
  · refine lv_iload_n hx hb dX11_put_14 rfl (lv_at hl 2 rfl) ?_
    refine lv_i2l (v := x2.toInt64) hx hb dX11_put_15 rfl ?_
    refine jk_i hf (fun res hres => js_run hx hb hml hown hts hK hN c_hG c_hNW hl.1 (n := 1) (As := [.long x2.toInt64]) (rest := []) (c_cX11_isState l hap σ2 x2.toInt64 res hres) hP kw_460 kw_495 kw_459 kw_52 ⟨rfl, rfl⟩ (by decide +kernel) rfl ⟨Nat.le_of_ble_eq_true rfl, Nat.le_of_ble_eq_true rfl⟩ rfl (Nat.le_of_ble_eq_true rfl) dX11_put_16) hS (fun v3 σ4 H locs hP hS hf => ?_)
    refine jb_ne (tgt := 25) hx hb hf dX11_put_19 (by decide) (fun hf => ?_) (fun hf => ?_)
    · refine lv_aload_n hx hb dX11_put_25 rfl (lv_at hl 0 rfl) ?_
      refine c_gX11_web hx hb hts hown hK hP (hts _ kw_410) dX11_put_26 ?_
      refine c_gX10_states hx hb hts hown hK hP (hts _ kw_116) dX11_put_29 ?_
      refine lv_iload_n hx hb dX11_put_32 rfl (lv_at hl 1 rfl) ?_
      refine lv_iconst (v := 3) hx hb dX11_put_33 (by decide) ?_
      refine lv_imul hx hb dX11_put_34 ?_
      refine lv_iload_n hx hb dX11_put_35 rfl (lv_at hl 2 rfl) ?_
      refine lv_iadd hx hb dX11_put_36 ?_
      refine lv_lload_n hx hb dX11_put_37 rfl (lv_at hl 3 rfl) ?_
      refine ja_lst hx hb hK (c_D hap σ4) hP hS 8 1 rfl rfl c_sB1 hf dX11_put_38 (fun σ5 H locs hP hS hf => ?_)
      refine lv_aload_n hx hb dX11_put_39 rfl (lv_at hl 0 rfl) ?_
      refine lv_iconst (v := 1) hx hb dX11_put_40 (by decide) ?_
      refine jk_i hf (fun res hres => jv_run hx hb hml hown hts hK hN c_hG c_hNW hl.1 (n := 1) (As := [.int 1]) (rest := []) (c_cX11_changed l hap σ5 1 res hres) hP (ci := 11) (q0 := 0) rfl rfl rfl kw_473 kw_470 kw_472 kw_0 kw_52 ⟨rfl, rfl⟩ (by decide +kernel) rfl ⟨Nat.le_of_ble_eq_true rfl, Nat.le_of_ble_eq_true rfl⟩ rfl (Nat.le_of_ble_eq_true rfl) dX11_put_41) hS (fun v6 σ7 H locs hP hS hf => ?_)
      exact jr_i hx hb hr hlocks hf rfl hP hS dX11_put_44
    · refine lv_bipush (v := (-102)) hx hb dX11_put_22 (by decide) ?_
      exact jr_i hx hb hr hlocks hf rfl hP hS dX11_put_24
  · refine lv_bipush (v := (-101)) hx hb dX11_put_11 (by decide) ?_
    exact jr_i hx hb hr hlocks hf rfl hP hS dX11_put_13
theorem c_cX11_put (l : Launch) {dC : Nat → ClassId} {dI : Nat → Nat → Nat} {kA : Nat → ClassId} {ad : Nat → Nat} (hap : jw_ap 57 ad) (σ : RS) (x1 : Int32) (x2 : Int32) (x3 : Int64) (res : Int32 × RS) (hf : s_cX11_put σ x1 x2 x3 = some res) : jm_i l KW NW (dC, dI) vwCl (jtys kA) (jw_A 57 ad) (c_w kA ad) yX11_put cX11_put 5 .int (rm_cX11_put) [.ref (ad 0), .int x1, .int x2, .long x3] σ res := jm_i_of (by decide) (Nat.le_of_ble_eq_true rfl) (fun p e s m below meth c C hP hS ls hl => p_cX11_put C hap σ x1 x2 x3 hf s.heap [] ls hP hS hl)
