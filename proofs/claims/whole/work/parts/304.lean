theorem dX12_goesOn_0 : decode cX12_goesOn 0 = .ok (.aload_n 0, 1) := by decide +kernel
theorem dX12_goesOn_1 : decode cX12_goesOn 1 = .ok (.getfield 66, 3) := by decide +kernel
theorem dX12_goesOn_4 : decode cX12_goesOn 4 = .ok (.iload_n 1, 1) := by decide +kernel
theorem dX12_goesOn_5 : decode cX12_goesOn 5 = .ok (.iaload, 1) := by decide +kernel
theorem dX12_goesOn_6 : decode cX12_goesOn 6 = .ok (.istore_n 2, 1) := by decide +kernel
theorem dX12_goesOn_7 : decode cX12_goesOn 7 = .ok (.aload_n 0, 1) := by decide +kernel
theorem dX12_goesOn_8 : decode cX12_goesOn 8 = .ok (.getfield 7, 3) := by decide +kernel
theorem dX12_goesOn_11 : decode cX12_goesOn 11 = .ok (.iload_n 2, 1) := by decide +kernel
theorem dX12_goesOn_12 : decode cX12_goesOn 12 = .ok (.iaload, 1) := by decide +kernel
theorem dX12_goesOn_13 : decode cX12_goesOn 13 = .ok (.istore_n 3, 1) := by decide +kernel
theorem dX12_goesOn_14 : decode cX12_goesOn 14 = .ok (.aload_n 0, 1) := by decide +kernel
theorem dX12_goesOn_15 : decode cX12_goesOn 15 = .ok (.getfield 69, 3) := by decide +kernel
theorem dX12_goesOn_18 : decode cX12_goesOn 18 = .ok (.iload_n 1, 1) := by decide +kernel
theorem dX12_goesOn_19 : decode cX12_goesOn 19 = .ok (.iaload, 1) := by decide +kernel
theorem dX12_goesOn_20 : decode cX12_goesOn 20 = .ok (.iconst 2, 1) := by decide +kernel
theorem dX12_goesOn_21 : decode cX12_goesOn 21 = .ok (.if_icmp .ne 37, 3) := by decide +kernel
theorem dX12_goesOn_24 : decode cX12_goesOn 24 = .ok (.aload_n 0, 1) := by decide +kernel
theorem dX12_goesOn_25 : decode cX12_goesOn 25 = .ok (.iload_n 3, 1) := by decide +kernel
theorem dX12_goesOn_26 : decode cX12_goesOn 26 = .ok (.bipush 16, 2) := by decide +kernel
theorem dX12_goesOn_28 : decode cX12_goesOn 28 = .ok (.if_icmp .ne 10, 3) := by decide +kernel
theorem dX12_goesOn_31 : decode cX12_goesOn 31 = .ok (.aload_n 0, 1) := by decide +kernel
theorem dX12_goesOn_32 : decode cX12_goesOn 32 = .ok (.getfield 165, 3) := by decide +kernel
theorem dX12_goesOn_35 : decode cX12_goesOn 35 = .ok (.goto 18, 3) := by decide +kernel
theorem dX12_goesOn_38 : decode cX12_goesOn 38 = .ok (.aload_n 0, 1) := by decide +kernel
theorem dX12_goesOn_39 : decode cX12_goesOn 39 = .ok (.iload_n 3, 1) := by decide +kernel
theorem dX12_goesOn_40 : decode cX12_goesOn 40 = .ok (.aload_n 0, 1) := by decide +kernel
theorem dX12_goesOn_41 : decode cX12_goesOn 41 = .ok (.getfield 72, 3) := by decide +kernel
theorem dX12_goesOn_44 : decode cX12_goesOn 44 = .ok (.iload_n 1, 1) := by decide +kernel
theorem dX12_goesOn_45 : decode cX12_goesOn 45 = .ok (.laload, 1) := by decide +kernel
theorem dX12_goesOn_46 : decode cX12_goesOn 46 = .ok (.aload_n 0, 1) := by decide +kernel
theorem dX12_goesOn_47 : decode cX12_goesOn 47 = .ok (.getfield 165, 3) := by decide +kernel
theorem dX12_goesOn_50 : decode cX12_goesOn 50 = .ok (.invokevirtual 185, 3) := by decide +kernel
theorem dX12_goesOn_53 : decode cX12_goesOn 53 = .ok (.putfield 165, 3) := by decide +kernel
theorem dX12_goesOn_56 : decode cX12_goesOn 56 = .ok (.iconst 1, 1) := by decide +kernel
theorem dX12_goesOn_57 : decode cX12_goesOn 57 = .ok (.ireturn, 1) := by decide +kernel
theorem dX12_goesOn_58 : decode cX12_goesOn 58 = .ok (.iload_n 3, 1) := by decide +kernel
theorem dX12_goesOn_59 : decode cX12_goesOn 59 = .ok (.bipush 17, 2) := by decide +kernel
theorem dX12_goesOn_61 : decode cX12_goesOn 61 = .ok (.if_icmp .ne 60, 3) := by decide +kernel
theorem dX12_goesOn_64 : decode cX12_goesOn 64 = .ok (.aload_n 0, 1) := by decide +kernel
theorem dX12_goesOn_65 : decode cX12_goesOn 65 = .ok (.getfield 165, 3) := by decide +kernel
theorem dX12_goesOn_68 : decode cX12_goesOn 68 = .ok (.l2i, 1) := by decide +kernel
theorem dX12_goesOn_69 : decode cX12_goesOn 69 = .ok (.istore 4, 2) := by decide +kernel
theorem dX12_goesOn_71 : decode cX12_goesOn 71 = .ok (.aload_n 0, 1) := by decide +kernel
theorem dX12_goesOn_72 : decode cX12_goesOn 72 = .ok (.iload 4, 2) := by decide +kernel
theorem dX12_goesOn_74 : decode cX12_goesOn 74 = .ok (.iconst 0, 1) := by decide +kernel
theorem dX12_goesOn_75 : decode cX12_goesOn 75 = .ok (.iconst 2, 1) := by decide +kernel
theorem dX12_goesOn_76 : decode cX12_goesOn 76 = .ok (.invokestatic 112, 3) := by decide +kernel
theorem dX12_goesOn_79 : decode cX12_goesOn 79 = .ok (.ifCond .eq 7, 3) := by decide +kernel
theorem dX12_goesOn_82 : decode cX12_goesOn 82 = .ok (.iconst 0, 1) := by decide +kernel
theorem dX12_goesOn_83 : decode cX12_goesOn 83 = .ok (.goto 4, 3) := by decide +kernel
theorem dX12_goesOn_86 : decode cX12_goesOn 86 = .ok (.iconst 2, 1) := by decide +kernel
theorem dX12_goesOn_87 : decode cX12_goesOn 87 = .ok (.putfield 146, 3) := by decide +kernel
theorem dX12_goesOn_90 : decode cX12_goesOn 90 = .ok (.aload_n 0, 1) := by decide +kernel
theorem dX12_goesOn_91 : decode cX12_goesOn 91 = .ok (.aload_n 0, 1) := by decide +kernel
theorem dX12_goesOn_92 : decode cX12_goesOn 92 = .ok (.getfield 146, 3) := by decide +kernel
theorem dX12_goesOn_95 : decode cX12_goesOn 95 = .ok (.ifCond .ne 20, 3) := by decide +kernel
theorem dX12_goesOn_98 : decode cX12_goesOn 98 = .ok (.aload_n 0, 1) := by decide +kernel
theorem dX12_goesOn_99 : decode cX12_goesOn 99 = .ok (.getfield 26, 3) := by decide +kernel
theorem dX12_goesOn_102 : decode cX12_goesOn 102 = .ok (.iconst 3, 1) := by decide +kernel
theorem dX12_goesOn_103 : decode cX12_goesOn 103 = .ok (.aload_n 0, 1) := by decide +kernel
theorem dX12_goesOn_104 : decode cX12_goesOn 104 = .ok (.getfield 140, 3) := by decide +kernel
theorem dX12_goesOn_107 : decode cX12_goesOn 107 = .ok (.imul, 1) := by decide +kernel
theorem dX12_goesOn_108 : decode cX12_goesOn 108 = .ok (.iload 4, 2) := by decide +kernel
theorem dX12_goesOn_110 : decode cX12_goesOn 110 = .ok (.iadd, 1) := by decide +kernel
theorem dX12_goesOn_111 : decode cX12_goesOn 111 = .ok (.laload, 1) := by decide +kernel
theorem dX12_goesOn_112 : decode cX12_goesOn 112 = .ok (.goto 4, 3) := by decide +kernel
theorem dX12_goesOn_115 : decode cX12_goesOn 115 = .ok (.lconst 0, 1) := by decide +kernel
theorem dX12_goesOn_116 : decode cX12_goesOn 116 = .ok (.putfield 165, 3) := by decide +kernel
theorem dX12_goesOn_119 : decode cX12_goesOn 119 = .ok (.iconst 1, 1) := by decide +kernel
theorem dX12_goesOn_120 : decode cX12_goesOn 120 = .ok (.ireturn, 1) := by decide +kernel
theorem dX12_goesOn_121 : decode cX12_goesOn 121 = .ok (.aload_n 0, 1) := by decide +kernel
theorem dX12_goesOn_122 : decode cX12_goesOn 122 = .ok (.getfield 72, 3) := by decide +kernel
theorem dX12_goesOn_125 : decode cX12_goesOn 125 = .ok (.iload_n 1, 1) := by decide +kernel
theorem dX12_goesOn_126 : decode cX12_goesOn 126 = .ok (.aload_n 0, 1) := by decide +kernel
theorem dX12_goesOn_127 : decode cX12_goesOn 127 = .ok (.getfield 165, 3) := by decide +kernel
theorem dX12_goesOn_130 : decode cX12_goesOn 130 = .ok (.lastore, 1) := by decide +kernel
theorem dX12_goesOn_131 : decode cX12_goesOn 131 = .ok (.aload_n 0, 1) := by decide +kernel
theorem dX12_goesOn_132 : decode cX12_goesOn 132 = .ok (.getfield 69, 3) := by decide +kernel
theorem dX12_goesOn_135 : decode cX12_goesOn 135 = .ok (.iload_n 1, 1) := by decide +kernel
theorem dX12_goesOn_136 : decode cX12_goesOn 136 = .ok (.iconst 2, 1) := by decide +kernel
theorem dX12_goesOn_137 : decode cX12_goesOn 137 = .ok (.iastore, 1) := by decide +kernel
theorem dX12_goesOn_138 : decode cX12_goesOn 138 = .ok (.aload_n 0, 1) := by decide +kernel
theorem dX12_goesOn_139 : decode cX12_goesOn 139 = .ok (.iload_n 3, 1) := by decide +kernel
theorem dX12_goesOn_140 : decode cX12_goesOn 140 = .ok (.bipush 16, 2) := by decide +kernel
theorem dX12_goesOn_142 : decode cX12_goesOn 142 = .ok (.if_icmp .ne 21, 3) := by decide +kernel
theorem dX12_goesOn_145 : decode cX12_goesOn 145 = .ok (.aload_n 0, 1) := by decide +kernel
theorem dX12_goesOn_146 : decode cX12_goesOn 146 = .ok (.getfield 165, 3) := by decide +kernel
theorem dX12_goesOn_149 : decode cX12_goesOn 149 = .ok (.lconst 0, 1) := by decide +kernel
theorem dX12_goesOn_150 : decode cX12_goesOn 150 = .ok (.lcmp, 1) := by decide +kernel
theorem dX12_goesOn_151 : decode cX12_goesOn 151 = .ok (.ifCond .ne 12, 3) := by decide +kernel
theorem dX12_goesOn_154 : decode cX12_goesOn 154 = .ok (.aload_n 0, 1) := by decide +kernel
theorem dX12_goesOn_155 : decode cX12_goesOn 155 = .ok (.getfield 19, 3) := by decide +kernel
theorem dX12_goesOn_158 : decode cX12_goesOn 158 = .ok (.iload_n 2, 1) := by decide +kernel
theorem dX12_goesOn_159 : decode cX12_goesOn 159 = .ok (.iaload, 1) := by decide +kernel
theorem dX12_goesOn_160 : decode cX12_goesOn 160 = .ok (.goto 9, 3) := by decide +kernel
theorem dX12_goesOn_163 : decode cX12_goesOn 163 = .ok (.aload_n 0, 1) := by decide +kernel
theorem dX12_goesOn_164 : decode cX12_goesOn 164 = .ok (.getfield 16, 3) := by decide +kernel
theorem dX12_goesOn_167 : decode cX12_goesOn 167 = .ok (.iload_n 2, 1) := by decide +kernel
theorem dX12_goesOn_168 : decode cX12_goesOn 168 = .ok (.iaload, 1) := by decide +kernel
theorem dX12_goesOn_169 : decode cX12_goesOn 169 = .ok (.invokevirtual 149, 3) := by decide +kernel
theorem dX12_goesOn_172 : decode cX12_goesOn 172 = .ok (.iconst 0, 1) := by decide +kernel
theorem dX12_goesOn_173 : decode cX12_goesOn 173 = .ok (.ireturn, 1) := by decide +kernel
theorem dX12_asked_0 : decode cX12_asked 0 = .ok (.aload_n 0, 1) := by decide +kernel
theorem dX12_asked_1 : decode cX12_asked 1 = .ok (.iload_n 2, 1) := by decide +kernel
theorem dX12_asked_2 : decode cX12_asked 2 = .ok (.putfield 140, 3) := by decide +kernel
theorem dX12_asked_5 : decode cX12_asked 5 = .ok (.aload_n 0, 1) := by decide +kernel
theorem dX12_asked_6 : decode cX12_asked 6 = .ok (.iload_n 3, 1) := by decide +kernel
theorem dX12_asked_7 : decode cX12_asked 7 = .ok (.putfield 143, 3) := by decide +kernel
theorem dX12_asked_10 : decode cX12_asked 10 = .ok (.aload_n 0, 1) := by decide +kernel
theorem dX12_asked_11 : decode cX12_asked 11 = .ok (.iconst 0, 1) := by decide +kernel
theorem dX12_asked_12 : decode cX12_asked 12 = .ok (.putfield 137, 3) := by decide +kernel
theorem dX12_asked_15 : decode cX12_asked 15 = .ok (.aload_n 0, 1) := by decide +kernel
theorem dX12_asked_16 : decode cX12_asked 16 = .ok (.iconst 0, 1) := by decide +kernel
theorem dX12_asked_17 : decode cX12_asked 17 = .ok (.putfield 146, 3) := by decide +kernel
theorem dX12_asked_20 : decode cX12_asked 20 = .ok (.aload_n 0, 1) := by decide +kernel
theorem dX12_asked_21 : decode cX12_asked 21 = .ok (.iload_n 1, 1) := by decide +kernel
theorem dX12_asked_22 : decode cX12_asked 22 = .ok (.invokevirtual 149, 3) := by decide +kernel
theorem dX12_asked_25 : decode cX12_asked 25 = .ok (.aload_n 0, 1) := by decide +kernel
theorem dX12_asked_26 : decode cX12_asked 26 = .ok (.getfield 137, 3) := by decide +kernel
theorem dX12_asked_29 : decode cX12_asked 29 = .ok (.ifCond .le 72, 3) := by decide +kernel
theorem dX12_asked_32 : decode cX12_asked 32 = .ok (.aload_n 0, 1) := by decide +kernel
theorem dX12_asked_33 : decode cX12_asked 33 = .ok (.getfield 137, 3) := by decide +kernel
theorem dX12_asked_36 : decode cX12_asked 36 = .ok (.iconst 1, 1) := by decide +kernel
theorem dX12_asked_37 : decode cX12_asked 37 = .ok (.isub, 1) := by decide +kernel
theorem dX12_asked_38 : decode cX12_asked 38 = .ok (.istore 4, 2) := by decide +kernel
theorem dX12_asked_40 : decode cX12_asked 40 = .ok (.aload_n 0, 1) := by decide +kernel
theorem dX12_asked_41 : decode cX12_asked 41 = .ok (.getfield 69, 3) := by decide +kernel
theorem dX12_asked_44 : decode cX12_asked 44 = .ok (.iload 4, 2) := by decide +kernel
theorem dX12_asked_46 : decode cX12_asked 46 = .ok (.iaload, 1) := by decide +kernel
theorem dX12_asked_47 : decode cX12_asked 47 = .ok (.ifCond .ne 12, 3) := by decide +kernel
theorem dX12_asked_50 : decode cX12_asked 50 = .ok (.aload_n 0, 1) := by decide +kernel
theorem dX12_asked_51 : decode cX12_asked 51 = .ok (.iload 4, 2) := by decide +kernel
theorem dX12_asked_53 : decode cX12_asked 53 = .ok (.invokevirtual 153, 3) := by decide +kernel
theorem dX12_asked_56 : decode cX12_asked 56 = .ok (.goto 9, 3) := by decide +kernel
theorem dX12_asked_59 : decode cX12_asked 59 = .ok (.aload_n 0, 1) := by decide +kernel
theorem dX12_asked_60 : decode cX12_asked 60 = .ok (.iload 4, 2) := by decide +kernel
theorem dX12_asked_62 : decode cX12_asked 62 = .ok (.invokevirtual 156, 3) := by decide +kernel
theorem dX12_asked_65 : decode cX12_asked 65 = .ok (.istore 5, 2) := by decide +kernel
theorem dX12_asked_67 : decode cX12_asked 67 = .ok (.aload_n 0, 1) := by decide +kernel
theorem dX12_asked_68 : decode cX12_asked 68 = .ok (.getfield 146, 3) := by decide +kernel
theorem dX12_asked_71 : decode cX12_asked 71 = .ok (.ifCond .eq 8, 3) := by decide +kernel
theorem dX12_asked_74 : decode cX12_asked 74 = .ok (.aload_n 0, 1) := by decide +kernel
theorem dX12_asked_75 : decode cX12_asked 75 = .ok (.getfield 146, 3) := by decide +kernel
theorem dX12_asked_78 : decode cX12_asked 78 = .ok (.ireturn, 1) := by decide +kernel
theorem dX12_asked_79 : decode cX12_asked 79 = .ok (.aload_n 0, 1) := by decide +kernel
theorem dX12_asked_80 : decode cX12_asked 80 = .ok (.dup, 1) := by decide +kernel
theorem dX12_asked_81 : decode cX12_asked 81 = .ok (.getfield 137, 3) := by decide +kernel
theorem dX12_asked_84 : decode cX12_asked 84 = .ok (.iload 5, 2) := by decide +kernel
theorem dX12_asked_86 : decode cX12_asked 86 = .ok (.ifCond .eq 7, 3) := by decide +kernel
theorem dX12_asked_89 : decode cX12_asked 89 = .ok (.iconst 1, 1) := by decide +kernel
theorem dX12_asked_90 : decode cX12_asked 90 = .ok (.goto 4, 3) := by decide +kernel
theorem dX12_asked_93 : decode cX12_asked 93 = .ok (.iconst 0, 1) := by decide +kernel
theorem dX12_asked_94 : decode cX12_asked 94 = .ok (.isub, 1) := by decide +kernel
theorem dX12_asked_95 : decode cX12_asked 95 = .ok (.putfield 137, 3) := by decide +kernel
theorem dX12_asked_98 : decode cX12_asked 98 = .ok (.goto (-73), 3) := by decide +kernel
theorem dX12_asked_101 : decode cX12_asked 101 = .ok (.iconst 0, 1) := by decide +kernel
theorem dX12_asked_102 : decode cX12_asked 102 = .ok (.ireturn, 1) := by decide +kernel
theorem dX12_does_0 : decode cX12_does 0 = .ok (.aload_n 0, 1) := by decide +kernel
theorem dX12_does_1 : decode cX12_does 1 = .ok (.aload_n 0, 1) := by decide +kernel
theorem dX12_does_2 : decode cX12_does 2 = .ok (.getfield 42, 3) := by decide +kernel
theorem dX12_does_5 : decode cX12_does 5 = .ok (.iload_n 1, 1) := by decide +kernel
theorem dX12_does_6 : decode cX12_does 6 = .ok (.iaload, 1) := by decide +kernel
theorem dX12_does_7 : decode cX12_does 7 = .ok (.iload_n 2, 1) := by decide +kernel
theorem dX12_does_8 : decode cX12_does 8 = .ok (.iload_n 3, 1) := by decide +kernel
theorem dX12_does_9 : decode cX12_does 9 = .ok (.invokevirtual 189, 3) := by decide +kernel
theorem dX12_does_12 : decode cX12_does 12 = .ok (.istore 4, 2) := by decide +kernel
theorem dX12_does_14 : decode cX12_does 14 = .ok (.iload 4, 2) := by decide +kernel
theorem dX12_does_16 : decode cX12_does 16 = .ok (.ifCond .eq 12, 3) := by decide +kernel
theorem dX12_does_19 : decode cX12_does 19 = .ok (.aload_n 0, 1) := by decide +kernel
theorem dX12_does_20 : decode cX12_does 20 = .ok (.iload 4, 2) := by decide +kernel
theorem dX12_does_22 : decode cX12_does 22 = .ok (.iload_n 1, 1) := by decide +kernel
theorem dX12_does_23 : decode cX12_does 23 = .ok (.iload_n 2, 1) := by decide +kernel
theorem dX12_does_24 : decode cX12_does 24 = .ok (.iload_n 3, 1) := by decide +kernel
theorem dX12_does_25 : decode cX12_does 25 = .ok (.invokevirtual 193, 3) := by decide +kernel
theorem dX12_does_28 : decode cX12_does 28 = .ok (.iload 4, 2) := by decide +kernel
theorem dX12_does_30 : decode cX12_does 30 = .ok (.ifCond .ne 7, 3) := by decide +kernel
theorem dX12_does_33 : decode cX12_does 33 = .ok (.iconst 1, 1) := by decide +kernel
theorem dX12_does_34 : decode cX12_does 34 = .ok (.goto 4, 3) := by decide +kernel
theorem dX12_does_37 : decode cX12_does 37 = .ok (.iconst 0, 1) := by decide +kernel
theorem dX12_does_38 : decode cX12_does 38 = .ok (.ireturn, 1) := by decide +kernel
theorem dX12_askArc_0 : decode cX12_askArc 0 = .ok (.aload_n 0, 1) := by decide +kernel
theorem dX12_askArc_1 : decode cX12_askArc 1 = .ok (.iconst 0, 1) := by decide +kernel
theorem dX12_askArc_2 : decode cX12_askArc 2 = .ok (.putfield 197, 3) := by decide +kernel
theorem dX12_askArc_5 : decode cX12_askArc 5 = .ok (.aload_n 0, 1) := by decide +kernel
theorem dX12_askArc_6 : decode cX12_askArc 6 = .ok (.getfield 42, 3) := by decide +kernel
theorem dX12_askArc_9 : decode cX12_askArc 9 = .ok (.iconst 0, 1) := by decide +kernel
theorem dX12_askArc_10 : decode cX12_askArc 10 = .ok (.iaload, 1) := by decide +kernel
theorem dX12_askArc_11 : decode cX12_askArc 11 = .ok (.iconst (-1), 1) := by decide +kernel
theorem dX12_askArc_12 : decode cX12_askArc 12 = .ok (.if_icmp .eq 28, 3) := by decide +kernel
theorem dX12_askArc_15 : decode cX12_askArc 15 = .ok (.aload_n 0, 1) := by decide +kernel
theorem dX12_askArc_16 : decode cX12_askArc 16 = .ok (.iconst 0, 1) := by decide +kernel
theorem dX12_askArc_17 : decode cX12_askArc 17 = .ok (.aload_n 0, 1) := by decide +kernel
theorem dX12_askArc_18 : decode cX12_askArc 18 = .ok (.getfield 33, 3) := by decide +kernel
theorem dX12_askArc_21 : decode cX12_askArc 21 = .ok (.iload_n 1, 1) := by decide +kernel
theorem dX12_askArc_22 : decode cX12_askArc 22 = .ok (.iaload, 1) := by decide +kernel
theorem dX12_askArc_23 : decode cX12_askArc 23 = .ok (.iload_n 1, 1) := by decide +kernel
theorem dX12_askArc_24 : decode cX12_askArc 24 = .ok (.invokevirtual 201, 3) := by decide +kernel
theorem dX12_askArc_27 : decode cX12_askArc 27 = .ok (.ifCond .eq 12, 3) := by decide +kernel
theorem dX12_askArc_30 : decode cX12_askArc 30 = .ok (.aload_n 0, 1) := by decide +kernel
theorem dX12_askArc_31 : decode cX12_askArc 31 = .ok (.getfield 165, 3) := by decide +kernel
theorem dX12_askArc_34 : decode cX12_askArc 34 = .ok (.lconst 0, 1) := by decide +kernel
theorem dX12_askArc_35 : decode cX12_askArc 35 = .ok (.lcmp, 1) := by decide +kernel
theorem dX12_askArc_36 : decode cX12_askArc 36 = .ok (.ifCond .ne 4, 3) := by decide +kernel
theorem dX12_askArc_39 : decode cX12_askArc 39 = .ok (.return_, 1) := by decide +kernel
theorem dX12_askArc_40 : decode cX12_askArc 40 = .ok (.aload_n 0, 1) := by decide +kernel
theorem dX12_askArc_41 : decode cX12_askArc 41 = .ok (.lconst 1, 1) := by decide +kernel
theorem dX12_askArc_42 : decode cX12_askArc 42 = .ok (.putfield 204, 3) := by decide +kernel
theorem dX12_askArc_45 : decode cX12_askArc 45 = .ok (.aload_n 0, 1) := by decide +kernel
theorem dX12_askArc_46 : decode cX12_askArc 46 = .ok (.getfield 42, 3) := by decide +kernel
theorem dX12_askArc_49 : decode cX12_askArc 49 = .ok (.iconst 1, 1) := by decide +kernel
theorem dX12_askArc_50 : decode cX12_askArc 50 = .ok (.iaload, 1) := by decide +kernel
theorem dX12_askArc_51 : decode cX12_askArc 51 = .ok (.iconst (-1), 1) := by decide +kernel
theorem dX12_askArc_52 : decode cX12_askArc 52 = .ok (.if_icmp .eq 27, 3) := by decide +kernel
theorem dX12_askArc_55 : decode cX12_askArc 55 = .ok (.aload_n 0, 1) := by decide +kernel
theorem dX12_askArc_56 : decode cX12_askArc 56 = .ok (.iconst 1, 1) := by decide +kernel
theorem dX12_askArc_57 : decode cX12_askArc 57 = .ok (.aload_n 0, 1) := by decide +kernel
theorem dX12_askArc_58 : decode cX12_askArc 58 = .ok (.getfield 33, 3) := by decide +kernel
theorem dX12_askArc_61 : decode cX12_askArc 61 = .ok (.iload_n 1, 1) := by decide +kernel
theorem dX12_askArc_62 : decode cX12_askArc 62 = .ok (.iaload, 1) := by decide +kernel
theorem dX12_askArc_63 : decode cX12_askArc 63 = .ok (.iload_n 1, 1) := by decide +kernel
theorem dX12_askArc_64 : decode cX12_askArc 64 = .ok (.invokevirtual 201, 3) := by decide +kernel
theorem dX12_askArc_67 : decode cX12_askArc 67 = .ok (.ifCond .ne 4, 3) := by decide +kernel
theorem dX12_askArc_70 : decode cX12_askArc 70 = .ok (.return_, 1) := by decide +kernel
theorem dX12_askArc_71 : decode cX12_askArc 71 = .ok (.aload_n 0, 1) := by decide +kernel
theorem dX12_askArc_72 : decode cX12_askArc 72 = .ok (.aload_n 0, 1) := by decide +kernel
theorem dX12_askArc_73 : decode cX12_askArc 73 = .ok (.getfield 165, 3) := by decide +kernel
theorem dX12_askArc_76 : decode cX12_askArc 76 = .ok (.putfield 204, 3) := by decide +kernel
theorem dX12_askArc_79 : decode cX12_askArc 79 = .ok (.aload_n 0, 1) := by decide +kernel
theorem dX12_askArc_80 : decode cX12_askArc 80 = .ok (.iconst 1, 1) := by decide +kernel
theorem dX12_askArc_81 : decode cX12_askArc 81 = .ok (.putfield 197, 3) := by decide +kernel
theorem dX12_askArc_84 : decode cX12_askArc 84 = .ok (.return_, 1) := by decide +kernel
theorem dX12_sendAlong_0 : decode cX12_sendAlong 0 = .ok (.aload_n 0, 1) := by decide +kernel
theorem dX12_sendAlong_1 : decode cX12_sendAlong 1 = .ok (.iload_n 1, 1) := by decide +kernel
theorem dX12_sendAlong_2 : decode cX12_sendAlong 2 = .ok (.invokevirtual 207, 3) := by decide +kernel
theorem dX12_sendAlong_5 : decode cX12_sendAlong 5 = .ok (.aload_n 0, 1) := by decide +kernel
theorem dX12_sendAlong_6 : decode cX12_sendAlong 6 = .ok (.getfield 197, 3) := by decide +kernel
theorem dX12_sendAlong_9 : decode cX12_sendAlong 9 = .ok (.ifCond .eq 47, 3) := by decide +kernel
theorem dX12_sendAlong_12 : decode cX12_sendAlong 12 = .ok (.aload_n 0, 1) := by decide +kernel
theorem dX12_sendAlong_13 : decode cX12_sendAlong 13 = .ok (.invokevirtual 210, 3) := by decide +kernel
theorem dX12_sendAlong_16 : decode cX12_sendAlong 16 = .ok (.ifCond .ne 40, 3) := by decide +kernel
theorem dX12_sendAlong_19 : decode cX12_sendAlong 19 = .ok (.aload_n 0, 1) := by decide +kernel
theorem dX12_sendAlong_20 : decode cX12_sendAlong 20 = .ok (.getfield 75, 3) := by decide +kernel
theorem dX12_sendAlong_23 : decode cX12_sendAlong 23 = .ok (.iload_n 1, 1) := by decide +kernel
theorem dX12_sendAlong_24 : decode cX12_sendAlong 24 = .ok (.iconst 1, 1) := by decide +kernel
theorem dX12_sendAlong_25 : decode cX12_sendAlong 25 = .ok (.bastore, 1) := by decide +kernel
theorem dX12_sendAlong_26 : decode cX12_sendAlong 26 = .ok (.aload_n 0, 1) := by decide +kernel
theorem dX12_sendAlong_27 : decode cX12_sendAlong 27 = .ok (.getfield 78, 3) := by decide +kernel
theorem dX12_sendAlong_30 : decode cX12_sendAlong 30 = .ok (.iload_n 1, 1) := by decide +kernel
theorem dX12_sendAlong_31 : decode cX12_sendAlong 31 = .ok (.aload_n 0, 1) := by decide +kernel
theorem dX12_sendAlong_32 : decode cX12_sendAlong 32 = .ok (.getfield 204, 3) := by decide +kernel
theorem dX12_sendAlong_35 : decode cX12_sendAlong 35 = .ok (.lastore, 1) := by decide +kernel
theorem dX12_sendAlong_36 : decode cX12_sendAlong 36 = .ok (.aload_n 0, 1) := by decide +kernel
theorem dX12_sendAlong_37 : decode cX12_sendAlong 37 = .ok (.getfield 81, 3) := by decide +kernel
theorem dX12_sendAlong_40 : decode cX12_sendAlong 40 = .ok (.aload_n 0, 1) := by decide +kernel
theorem dX12_sendAlong_41 : decode cX12_sendAlong 41 = .ok (.getfield 214, 3) := by decide +kernel
theorem dX12_sendAlong_44 : decode cX12_sendAlong 44 = .ok (.iload_n 1, 1) := by decide +kernel
theorem dX12_sendAlong_45 : decode cX12_sendAlong 45 = .ok (.iastore, 1) := by decide +kernel
theorem dX12_sendAlong_46 : decode cX12_sendAlong 46 = .ok (.aload_n 0, 1) := by decide +kernel
theorem dX12_sendAlong_47 : decode cX12_sendAlong 47 = .ok (.dup, 1) := by decide +kernel
theorem dX12_sendAlong_48 : decode cX12_sendAlong 48 = .ok (.getfield 214, 3) := by decide +kernel
theorem dX12_sendAlong_51 : decode cX12_sendAlong 51 = .ok (.iconst 1, 1) := by decide +kernel
theorem dX12_sendAlong_52 : decode cX12_sendAlong 52 = .ok (.iadd, 1) := by decide +kernel
theorem dX12_sendAlong_53 : decode cX12_sendAlong 53 = .ok (.putfield 214, 3) := by decide +kernel
theorem dX12_sendAlong_56 : decode cX12_sendAlong 56 = .ok (.return_, 1) := by decide +kernel
theorem dX12_sendAll_0 : decode cX12_sendAll 0 = .ok (.aload_n 0, 1) := by decide +kernel
theorem dX12_sendAll_1 : decode cX12_sendAll 1 = .ok (.iconst 0, 1) := by decide +kernel
theorem dX12_sendAll_2 : decode cX12_sendAll 2 = .ok (.putfield 214, 3) := by decide +kernel
theorem dX12_sendAll_5 : decode cX12_sendAll 5 = .ok (.iconst 0, 1) := by decide +kernel
theorem dX12_sendAll_6 : decode cX12_sendAll 6 = .ok (.istore_n 2, 1) := by decide +kernel
theorem dX12_sendAll_7 : decode cX12_sendAll 7 = .ok (.iload_n 2, 1) := by decide +kernel
theorem dX12_sendAll_8 : decode cX12_sendAll 8 = .ok (.aload_n 0, 1) := by decide +kernel
theorem dX12_sendAll_9 : decode cX12_sendAll 9 = .ok (.getfield 119, 3) := by decide +kernel
theorem dX12_sendAll_12 : decode cX12_sendAll 12 = .ok (.if_icmp .ge 16, 3) := by decide +kernel
theorem dX12_sendAll_15 : decode cX12_sendAll 15 = .ok (.aload_n 0, 1) := by decide +kernel
theorem dX12_sendAll_16 : decode cX12_sendAll 16 = .ok (.getfield 75, 3) := by decide +kernel
theorem dX12_sendAll_19 : decode cX12_sendAll 19 = .ok (.iload_n 2, 1) := by decide +kernel
theorem dX12_sendAll_20 : decode cX12_sendAll 20 = .ok (.iconst 0, 1) := by decide +kernel
theorem dX12_sendAll_21 : decode cX12_sendAll 21 = .ok (.bastore, 1) := by decide +kernel
theorem dX12_sendAll_22 : decode cX12_sendAll 22 = .ok (.iinc 2 1, 3) := by decide +kernel
theorem dX12_sendAll_25 : decode cX12_sendAll 25 = .ok (.goto (-18), 3) := by decide +kernel
theorem dX12_sendAll_28 : decode cX12_sendAll 28 = .ok (.iconst 0, 1) := by decide +kernel
theorem dX12_sendAll_29 : decode cX12_sendAll 29 = .ok (.istore_n 2, 1) := by decide +kernel
theorem dX12_sendAll_30 : decode cX12_sendAll 30 = .ok (.iload_n 2, 1) := by decide +kernel
theorem dX12_sendAll_31 : decode cX12_sendAll 31 = .ok (.aload_n 0, 1) := by decide +kernel
theorem dX12_sendAll_32 : decode cX12_sendAll 32 = .ok (.getfield 116, 3) := by decide +kernel
theorem dX12_sendAll_35 : decode cX12_sendAll 35 = .ok (.if_icmp .ge 104, 3) := by decide +kernel
theorem dX12_sendAll_38 : decode cX12_sendAll 38 = .ok (.iconst 0, 1) := by decide +kernel
theorem dX12_sendAll_39 : decode cX12_sendAll 39 = .ok (.istore_n 3, 1) := by decide +kernel
theorem dX12_sendAll_40 : decode cX12_sendAll 40 = .ok (.iload_n 3, 1) := by decide +kernel
theorem dX12_sendAll_41 : decode cX12_sendAll 41 = .ok (.aload_n 0, 1) := by decide +kernel
theorem dX12_sendAll_42 : decode cX12_sendAll 42 = .ok (.getfield 119, 3) := by decide +kernel
theorem dX12_sendAll_45 : decode cX12_sendAll 45 = .ok (.if_icmp .ge 88, 3) := by decide +kernel
theorem dX12_sendAll_48 : decode cX12_sendAll 48 = .ok (.aload_n 0, 1) := by decide +kernel
theorem dX12_sendAll_49 : decode cX12_sendAll 49 = .ok (.invokevirtual 210, 3) := by decide +kernel
theorem dX12_sendAll_52 : decode cX12_sendAll 52 = .ok (.ifCond .ne 81, 3) := by decide +kernel
theorem dX12_sendAll_55 : decode cX12_sendAll 55 = .ok (.iload_n 1, 1) := by decide +kernel
theorem dX12_sendAll_56 : decode cX12_sendAll 56 = .ok (.ifCond .ne 30, 3) := by decide +kernel
theorem dX12_sendAll_59 : decode cX12_sendAll 59 = .ok (.aload_n 0, 1) := by decide +kernel
theorem dX12_sendAll_60 : decode cX12_sendAll 60 = .ok (.getfield 33, 3) := by decide +kernel
theorem dX12_sendAll_63 : decode cX12_sendAll 63 = .ok (.iload_n 3, 1) := by decide +kernel
theorem dX12_sendAll_64 : decode cX12_sendAll 64 = .ok (.iaload, 1) := by decide +kernel
theorem dX12_sendAll_65 : decode cX12_sendAll 65 = .ok (.iload_n 2, 1) := by decide +kernel
theorem dX12_sendAll_66 : decode cX12_sendAll 66 = .ok (.if_icmp .ne 16, 3) := by decide +kernel
theorem dX12_sendAll_69 : decode cX12_sendAll 69 = .ok (.aload_n 0, 1) := by decide +kernel
theorem dX12_sendAll_70 : decode cX12_sendAll 70 = .ok (.getfield 29, 3) := by decide +kernel
theorem dX12_sendAll_73 : decode cX12_sendAll 73 = .ok (.iload_n 2, 1) := by decide +kernel
theorem dX12_sendAll_74 : decode cX12_sendAll 74 = .ok (.baload, 1) := by decide +kernel
theorem dX12_sendAll_75 : decode cX12_sendAll 75 = .ok (.ifCond .eq 7, 3) := by decide +kernel
theorem dX12_sendAll_78 : decode cX12_sendAll 78 = .ok (.iconst 1, 1) := by decide +kernel
theorem dX12_sendAll_79 : decode cX12_sendAll 79 = .ok (.goto 36, 3) := by decide +kernel
theorem dX12_sendAll_82 : decode cX12_sendAll 82 = .ok (.iconst 0, 1) := by decide +kernel
theorem dX12_sendAll_83 : decode cX12_sendAll 83 = .ok (.goto 32, 3) := by decide +kernel
theorem dX12_sendAll_86 : decode cX12_sendAll 86 = .ok (.aload_n 0, 1) := by decide +kernel
theorem dX12_sendAll_87 : decode cX12_sendAll 87 = .ok (.getfield 36, 3) := by decide +kernel
theorem dX12_sendAll_90 : decode cX12_sendAll 90 = .ok (.iload_n 3, 1) := by decide +kernel
theorem dX12_sendAll_91 : decode cX12_sendAll 91 = .ok (.iaload, 1) := by decide +kernel
theorem dX12_sendAll_92 : decode cX12_sendAll 92 = .ok (.iload_n 2, 1) := by decide +kernel
theorem dX12_sendAll_93 : decode cX12_sendAll 93 = .ok (.if_icmp .ne 21, 3) := by decide +kernel
theorem dX12_sendAll_96 : decode cX12_sendAll 96 = .ok (.aload_n 0, 1) := by decide +kernel
theorem dX12_sendAll_97 : decode cX12_sendAll 97 = .ok (.getfield 29, 3) := by decide +kernel
theorem dX12_sendAll_100 : decode cX12_sendAll 100 = .ok (.aload_n 0, 1) := by decide +kernel
theorem dX12_sendAll_101 : decode cX12_sendAll 101 = .ok (.getfield 33, 3) := by decide +kernel
theorem dX12_sendAll_104 : decode cX12_sendAll 104 = .ok (.iload_n 3, 1) := by decide +kernel
theorem dX12_sendAll_105 : decode cX12_sendAll 105 = .ok (.iaload, 1) := by decide +kernel
theorem dX12_sendAll_106 : decode cX12_sendAll 106 = .ok (.baload, 1) := by decide +kernel
theorem dX12_sendAll_107 : decode cX12_sendAll 107 = .ok (.ifCond .eq 7, 3) := by decide +kernel
theorem dX12_sendAll_110 : decode cX12_sendAll 110 = .ok (.iconst 1, 1) := by decide +kernel
theorem dX12_sendAll_111 : decode cX12_sendAll 111 = .ok (.goto 4, 3) := by decide +kernel
theorem dX12_sendAll_114 : decode cX12_sendAll 114 = .ok (.iconst 0, 1) := by decide +kernel
theorem dX12_sendAll_115 : decode cX12_sendAll 115 = .ok (.istore 4, 2) := by decide +kernel
theorem dX12_sendAll_117 : decode cX12_sendAll 117 = .ok (.iload 4, 2) := by decide +kernel
theorem dX12_sendAll_119 : decode cX12_sendAll 119 = .ok (.ifCond .eq 8, 3) := by decide +kernel
theorem dX12_sendAll_122 : decode cX12_sendAll 122 = .ok (.aload_n 0, 1) := by decide +kernel
theorem dX12_sendAll_123 : decode cX12_sendAll 123 = .ok (.iload_n 3, 1) := by decide +kernel
theorem dX12_sendAll_124 : decode cX12_sendAll 124 = .ok (.invokevirtual 217, 3) := by decide +kernel
theorem dX12_sendAll_127 : decode cX12_sendAll 127 = .ok (.iinc 3 1, 3) := by decide +kernel
theorem dX12_sendAll_130 : decode cX12_sendAll 130 = .ok (.goto (-90), 3) := by decide +kernel
theorem dX12_sendAll_133 : decode cX12_sendAll 133 = .ok (.iinc 2 1, 3) := by decide +kernel
theorem dX12_sendAll_136 : decode cX12_sendAll 136 = .ok (.goto (-106), 3) := by decide +kernel
theorem dX12_sendAll_139 : decode cX12_sendAll 139 = .ok (.return_, 1) := by decide +kernel
def rm_rX12_goesOn : Room := { frames := 1, cells := 0, slots := 0, locals := 25 }
def G_rX12_goesOn_b169 (p : Program) (l : Launch) (e : Env) (s : State) (m : MethodId) (args : Array Value) (below : List Frame) (meth : Method) (c : Code) (dC : Nat → ClassId) (dI : Nat → Nat → Nat) (kA : Nat → ClassId) (ad : Nat → Nat) (res : Int32 × RS) (F : RS → Int32 → Option (Int32 × RS)) : Prop := ∀ (σ : RS) (s0 : Int32), F σ s0 = some res → ∀ (H : Heap) (locs : List Loc) (ls : Array Slot), va_P (dC, dI) vwCl (r_w kA ad σ) H → va_S (jw_A 32 ad) s.heap H locs → lv_has ls 5 [] → W p l e rm_rX12_goesOn s m args below meth c H locs 0 0 (r_Qi below dC dI kA ad args s res) (F0 m 169 ls [.int s0, .ref (ad 0)])
def G_rX12_goesOn_b163 (p : Program) (l : Launch) (e : Env) (s : State) (m : MethodId) (args : Array Value) (below : List Frame) (meth : Method) (c : Code) (dC : Nat → ClassId) (dI : Nat → Nat → Nat) (kA : Nat → ClassId) (ad : Nat → Nat) (res : Int32 × RS) (F : RS → Int32 → Option (Int32 × RS)) : Prop := ∀ (σ : RS) (x2 : Int32), F σ x2 = some res → ∀ (H : Heap) (locs : List Loc) (ls : Array Slot), va_P (dC, dI) vwCl (r_w kA ad σ) H → va_S (jw_A 32 ad) s.heap H locs → lv_has ls 5 [(0, .ref (ad 0)), (2, .int x2)] → W p l e rm_rX12_goesOn s m args below meth c H locs 0 0 (r_Qi below dC dI kA ad args s res) (F0 m 163 ls [.ref (ad 0)])
def G_rX12_goesOn_b116 (p : Program) (l : Launch) (e : Env) (s : State) (m : MethodId) (args : Array Value) (below : List Frame) (meth : Method) (c : Code) (dC : Nat → ClassId) (dI : Nat → Nat → Nat) (kA : Nat → ClassId) (ad : Nat → Nat) (res : Int32 × RS) (F : RS → Int64 → Option (Int32 × RS)) : Prop := ∀ (σ : RS) (s0 : Int64), F σ s0 = some res → ∀ (H : Heap) (locs : List Loc) (ls : Array Slot), va_P (dC, dI) vwCl (r_w kA ad σ) H → va_S (jw_A 32 ad) s.heap H locs → lv_has ls 5 [] → W p l e rm_rX12_goesOn s m args below meth c H locs 0 0 (r_Qi below dC dI kA ad args s res) (F0 m 116 ls [.long s0, .ref (ad 0)])
def G_rX12_goesOn_b87 (p : Program) (l : Launch) (e : Env) (s : State) (m : MethodId) (args : Array Value) (below : List Frame) (meth : Method) (c : Code) (dC : Nat → ClassId) (dI : Nat → Nat → Nat) (kA : Nat → ClassId) (ad : Nat → Nat) (res : Int32 × RS) (F : RS → Int32 → Int32 → Option (Int32 × RS)) : Prop := ∀ (σ : RS) (x4 : Int32) (s0 : Int32), F σ x4 s0 = some res → ∀ (H : Heap) (locs : List Loc) (ls : Array Slot), va_P (dC, dI) vwCl (r_w kA ad σ) H → va_S (jw_A 32 ad) s.heap H locs → lv_has ls 5 [(0, .ref (ad 0)), (4, .int x4)] → W p l e rm_rX12_goesOn s m args below meth c H locs 0 0 (r_Qi below dC dI kA ad args s res) (F0 m 87 ls [.int s0, .ref (ad 0)])
def G_rX12_goesOn_b53 (p : Program) (l : Launch) (e : Env) (s : State) (m : MethodId) (args : Array Value) (below : List Frame) (meth : Method) (c : Code) (dC : Nat → ClassId) (dI : Nat → Nat → Nat) (kA : Nat → ClassId) (ad : Nat → Nat) (res : Int32 × RS) (F : RS → Int64 → Option (Int32 × RS)) : Prop := ∀ (σ : RS) (s0 : Int64), F σ s0 = some res → ∀ (H : Heap) (locs : List Loc) (ls : Array Slot), va_P (dC, dI) vwCl (r_w kA ad σ) H → va_S (jw_A 32 ad) s.heap H locs → lv_has ls 5 [] → W p l e rm_rX12_goesOn s m args below meth c H locs 0 0 (r_Qi below dC dI kA ad args s res) (F0 m 53 ls [.long s0, .ref (ad 0)])
def G_rX12_goesOn (p : Program) (l : Launch) (e : Env) (s : State) (m : MethodId) (args : Array Value) (below : List Frame) (meth : Method) (c : Code) (dC : Nat → ClassId) (dI : Nat → Nat → Nat) (kA : Nat → ClassId) (ad : Nat → Nat) (res : Int32 × RS) (F : RS → Int32 → Option (Int32 × RS)) : Prop := ∀ (σ : RS) (x1 : Int32), F σ x1 = some res → ∀ (H : Heap) (locs : List Loc) (ls : Array Slot), va_P (dC, dI) vwCl (r_w kA ad σ) H → va_S (jw_A 32 ad) s.heap H locs → lv_has ls 5 [(0, .ref (ad 0)), (1, .int x1)] → W p l e rm_rX12_goesOn s m args below meth c H locs 0 0 (r_Qi below dC dI kA ad args s res) (F0 m 0 ls [])
def s_rX12_goesOn_b169 (σ : RS) (s0 : Int32) : Option (Int32 × RS) := kn_u (s_rX12_push σ s0) (fun σ2 => some (0, σ2))
set_option maxRecDepth 100000 in
set_option maxHeartbeats 4000000 in
theorem p_rX12_goesOn_b169 {p : Program} {l : Launch} {e : Env} {s : State} {m : MethodId} {args : Array Value} {below : List Frame} {meth : Method} {c : Code} {dC : Nat → ClassId} {dI : Nat → Nat → Nat} {kA : Nat → ClassId} {ad : Nat → Nat} (C : jxc cX12_goesOn (some .boolean) 5 RX12 p s m args meth c dC dI kA) (hap : jw_ap 32 ad) {res : Int32 × RS} : G_rX12_goesOn_b169 p l e s m args below meth c dC dI kA ad res (s_rX12_goesOn_b169) := by
  obtain ⟨hx, hb, hml, hown, hts, hr, hlocks, hK, hN⟩ := id C
  intro σ s0 hf H locs ls hP hS hl
  unfold s_rX12_goesOn_b169 at hf
  refine jk_u hf (fun res hres => jv_run hx hb hml hown hts hK hN r_hG r_hNW hl.1 (n := 1) (As := [.int s0]) (rest := []) (c_rX12_push l hap σ s0 res hres) hP (ci := 12) (q0 := 0) rfl rfl rfl kw_994 kw_991 kw_993 kw_33 kw_64 ⟨rfl, rfl⟩ (by decide +kernel) rfl ⟨Nat.le_of_ble_eq_true rfl, Nat.le_of_ble_eq_true rfl⟩ rfl (Nat.le_of_ble_eq_true rfl) dX12_goesOn_169) hS (fun σ2 H locs hP hS hf => ?_)
  refine lv_iconst (v := 0) hx hb dX12_goesOn_172 (by decide) ?_
  exact jr_i hx hb hr hlocks hf (by decide) hP hS dX12_goesOn_173
def s_rX12_goesOn_b163 (σ : RS) (x2 : Int32) : Option (Int32 × RS) := kn_ld (rg_A σ 2) 40 x2 (fun v1 => s_rX12_goesOn_b169 σ v1)
set_option maxRecDepth 100000 in
set_option maxHeartbeats 4000000 in
theorem p_rX12_goesOn_b163 {p : Program} {l : Launch} {e : Env} {s : State} {m : MethodId} {args : Array Value} {below : List Frame} {meth : Method} {c : Code} {dC : Nat → ClassId} {dI : Nat → Nat → Nat} {kA : Nat → ClassId} {ad : Nat → Nat} (C : jxc cX12_goesOn (some .boolean) 5 RX12 p s m args meth c dC dI kA) (hap : jw_ap 32 ad) {res : Int32 × RS} : G_rX12_goesOn_b163 p l e s m args below meth c dC dI kA ad res (s_rX12_goesOn_b163) := by
  obtain ⟨hx, hb, hml, hown, hts, hr, hlocks, hK, hN⟩ := id C
  intro σ x2 hf H locs ls hP hS hl
  unfold s_rX12_goesOn_b163 at hf
  refine lv_aload_n hx hb dX12_goesOn_163 rfl (lv_at hl 0 rfl) ?_
  refine r_gX12_partB hx hb hts hown hK hP (hts _ kw_762) dX12_goesOn_164 ?_
  refine lv_iload_n hx hb dX12_goesOn_167 rfl (lv_at hl 1 rfl) ?_
  refine ja_ild hx hb hK hP 3 0 rfl rfl hf dX12_goesOn_168 (fun v1 hf => ?_)
  exact (p_rX12_goesOn_b169 C hap) σ v1 hf H locs ls hP hS (lv_sub hl [] rfl)
def s_rX12_goesOn_b116 (σ : RS) (s0 : Int64) : Option (Int32 × RS) := kn_v (rs_L σ 1 s0) (fun σ1 => some (1, σ1))
set_option maxRecDepth 100000 in
set_option maxHeartbeats 4000000 in
theorem p_rX12_goesOn_b116 {p : Program} {l : Launch} {e : Env} {s : State} {m : MethodId} {args : Array Value} {below : List Frame} {meth : Method} {c : Code} {dC : Nat → ClassId} {dI : Nat → Nat → Nat} {kA : Nat → ClassId} {ad : Nat → Nat} (C : jxc cX12_goesOn (some .boolean) 5 RX12 p s m args meth c dC dI kA) (hap : jw_ap 32 ad) {res : Int32 × RS} : G_rX12_goesOn_b116 p l e s m args below meth c dC dI kA ad res (s_rX12_goesOn_b116) := by
  obtain ⟨hx, hb, hml, hown, hts, hr, hlocks, hK, hN⟩ := id C
  intro σ s0 hf H locs ls hP hS hl
  unfold s_rX12_goesOn_b116 at hf
  refine r_pX12_came hx hb hts hown hK hap hP hS hf (hts _ kw_791) dX12_goesOn_116 (fun σ1 H locs hP hS hf => ?_)
  refine lv_iconst (v := 1) hx hb dX12_goesOn_119 (by decide) ?_
  exact jr_i hx hb hr hlocks hf (by decide) hP hS dX12_goesOn_120
def s_rX12_goesOn_b87 (σ : RS) (x4 : Int32) (s0 : Int32) : Option (Int32 × RS) := kn_v (rs_I σ 10 s0) (fun σ1 => if (rg_I σ1 10) = 0 then (kn_ld (rg_B σ1 1) 36 ((3 * (rg_I σ1 12)) + x4) (fun v2 => s_rX12_goesOn_b116 σ1 v2)) else (s_rX12_goesOn_b116 σ1 0))
set_option maxRecDepth 100000 in
set_option maxHeartbeats 4000000 in
theorem p_rX12_goesOn_b87 {p : Program} {l : Launch} {e : Env} {s : State} {m : MethodId} {args : Array Value} {below : List Frame} {meth : Method} {c : Code} {dC : Nat → ClassId} {dI : Nat → Nat → Nat} {kA : Nat → ClassId} {ad : Nat → Nat} (C : jxc cX12_goesOn (some .boolean) 5 RX12 p s m args meth c dC dI kA) (hap : jw_ap 32 ad) {res : Int32 × RS} : G_rX12_goesOn_b87 p l e s m args below meth c dC dI kA ad res (s_rX12_goesOn_b87) := by
  obtain ⟨hx, hb, hml, hown, hts, hr, hlocks, hK, hN⟩ := id C
  intro σ x4 s0 hf H locs ls hP hS hl
  unfold s_rX12_goesOn_b87 at hf
  refine r_pX12_fails hx hb hts hown hK hap hP hS hf (hts _ kw_792) dX12_goesOn_87 (fun σ1 H locs hP hS hf => ?_)
  refine lv_aload_n hx hb dX12_goesOn_90 rfl (lv_at hl 0 rfl) ?_
  refine lv_aload_n hx hb dX12_goesOn_91 rfl (lv_at hl 0 rfl) ?_
  refine r_gX12_fails hx hb hts hown hK hP (hts _ kw_792) dX12_goesOn_92 ?_
  refine jb_ne (tgt := 115) hx hb hf dX12_goesOn_95 (by decide) (fun hf => ?_) (fun hf => ?_)
  · refine lv_lconst (v := 0) hx hb dX12_goesOn_115 (by decide) ?_
    exact (p_rX12_goesOn_b116 C hap) σ1 0 hf H locs ls hP hS (lv_sub hl [] rfl)
  · refine lv_aload_n hx hb dX12_goesOn_98 rfl (lv_at hl 0 rfl) ?_
    refine r_gX12_states hx hb hts hown hK hP (hts _ kw_766) dX12_goesOn_99 ?_
    refine lv_iconst (v := 3) hx hb dX12_goesOn_102 (by decide) ?_
    refine lv_aload_n hx hb dX12_goesOn_103 rfl (lv_at hl 0 rfl) ?_
    refine r_gX12_atNode hx hb hts hown hK hP (hts _ kw_794) dX12_goesOn_104 ?_
    refine lv_imul hx hb dX12_goesOn_107 ?_
    refine lv_iload hx hb dX12_goesOn_108 (lv_at hl 1 rfl) ?_
    refine lv_iadd hx hb dX12_goesOn_110 ?_
    refine ja_lld hx hb hK hP 6 1 rfl rfl hf dX12_goesOn_111 (fun v2 hf => ?_)
    refine lv_goto (tgt := 116) hx hb dX12_goesOn_112 (by decide) ?_
    exact (p_rX12_goesOn_b116 C hap) σ1 v2 hf H locs ls hP hS (lv_sub hl [] rfl)
def s_rX12_goesOn_b53 (σ : RS) (s0 : Int64) : Option (Int32 × RS) := kn_v (rs_L σ 1 s0) (fun σ1 => some (1, σ1))
set_option maxRecDepth 100000 in
set_option maxHeartbeats 4000000 in
theorem p_rX12_goesOn_b53 {p : Program} {l : Launch} {e : Env} {s : State} {m : MethodId} {args : Array Value} {below : List Frame} {meth : Method} {c : Code} {dC : Nat → ClassId} {dI : Nat → Nat → Nat} {kA : Nat → ClassId} {ad : Nat → Nat} (C : jxc cX12_goesOn (some .boolean) 5 RX12 p s m args meth c dC dI kA) (hap : jw_ap 32 ad) {res : Int32 × RS} : G_rX12_goesOn_b53 p l e s m args below meth c dC dI kA ad res (s_rX12_goesOn_b53) := by
  obtain ⟨hx, hb, hml, hown, hts, hr, hlocks, hK, hN⟩ := id C
  intro σ s0 hf H locs ls hP hS hl
  unfold s_rX12_goesOn_b53 at hf
  refine r_pX12_came hx hb hts hown hK hap hP hS hf (hts _ kw_791) dX12_goesOn_53 (fun σ1 H locs hP hS hf => ?_)
  refine lv_iconst (v := 1) hx hb dX12_goesOn_56 (by decide) ?_
  exact jr_i hx hb hr hlocks hf (by decide) hP hS dX12_goesOn_57
def s_rX12_goesOn (σ : RS) (x1 : Int32) : Option (Int32 × RS) := kn_ld (rg_A σ 12) 44 x1 (fun v1 => kn_ld (rg_A σ 0) 40 v1 (fun v2 => kn_ld (rg_A σ 13) 44 x1 (fun v3 => if v3 = 2 then (if v2 = 16 then (s_rX12_goesOn_b53 σ (rg_L σ 1)) else (kn_ld (rg_B σ 6) 44 x1 (fun v10 => kn_l (s_rX12_joined σ v2 v10 (rg_L σ 1)) (fun v11 σ12 => s_rX12_goesOn_b53 σ12 v11)))) else (if v2 = 17 then (kn_v ((rg_L σ 1).toInt32) (fun v7 => kn_i (s_rX12_in σ v7 0 2) (fun v8 σ9 => if v8 = 0 then (s_rX12_goesOn_b87 σ9 v7 2) else (s_rX12_goesOn_b87 σ9 v7 0)))) else (kn_st (rs_B σ 6 (vp_updL (rg_B σ 6) x1.toNatClampNeg (rg_L σ 1))) 44 x1 (fun σ4 => kn_st (rs_A σ4 13 (upd (rg_A σ4 13) x1.toNatClampNeg 2)) 44 x1 (fun σ5 => if v2 = 16 then (if (rg_L σ5 1) = 0 then (kn_ld (rg_A σ5 3) 40 v1 (fun v6 => s_rX12_goesOn_b169 σ5 v6)) else (s_rX12_goesOn_b163 σ5 v1)) else (s_rX12_goesOn_b163 σ5 v1))))))))
set_option maxRecDepth 100000 in
set_option maxHeartbeats 4000000 in
theorem p_rX12_goesOn {p : Program} {l : Launch} {e : Env} {s : State} {m : MethodId} {args : Array Value} {below : List Frame} {meth : Method} {c : Code} {dC : Nat → ClassId} {dI : Nat → Nat → Nat} {kA : Nat → ClassId} {ad : Nat → Nat} (C : jxc cX12_goesOn (some .boolean) 5 RX12 p s m args meth c dC dI kA) (hap : jw_ap 32 ad) {res : Int32 × RS} : G_rX12_goesOn p l e s m args below meth c dC dI kA ad res (s_rX12_goesOn) := by
  obtain ⟨hx, hb, hml, hown, hts, hr, hlocks, hK, hN⟩ := id C
  intro σ x1 hf H locs ls hP hS hl
  unfold s_rX12_goesOn at hf
  refine lv_aload_n hx hb dX12_goesOn_0 rfl (lv_at hl 0 rfl) ?_
  refine r_gX12_pile hx hb hts hown hK hP (hts _ kw_788) dX12_goesOn_1 ?_
  refine lv_iload_n hx hb dX12_goesOn_4 rfl (lv_at hl 1 rfl) ?_
  refine ja_ild hx hb hK hP 19 0 rfl rfl hf dX12_goesOn_5 (fun v1 hf => ?_)
  refine lv_istore_n (lv' := [(2, .int v1), (0, .ref (ad 0)), (1, .int x1)]) hx hb dX12_goesOn_6 rfl hl (by decide) rfl (fun ls hl => ?_)
  refine lv_aload_n hx hb dX12_goesOn_7 rfl (lv_at hl 1 rfl) ?_
  refine r_gX12_kinds hx hb hts hown hK hP (hts _ kw_760) dX12_goesOn_8 ?_
  refine lv_iload_n hx hb dX12_goesOn_11 rfl (lv_at hl 0 rfl) ?_
  refine ja_ild hx hb hK hP 1 0 rfl rfl hf dX12_goesOn_12 (fun v2 hf => ?_)
  refine lv_istore_n (lv' := [(3, .int v2), (2, .int v1), (0, .ref (ad 0)), (1, .int x1)]) hx hb dX12_goesOn_13 rfl hl (by decide) rfl (fun ls hl => ?_)
  refine lv_aload_n hx hb dX12_goesOn_14 rfl (lv_at hl 2 rfl) ?_
  refine r_gX12_stage hx hb hts hown hK hP (hts _ kw_789) dX12_goesOn_15 ?_
  refine lv_iload_n hx hb dX12_goesOn_18 rfl (lv_at hl 3 rfl) ?_
  refine ja_ild hx hb hK hP 20 0 rfl rfl hf dX12_goesOn_19 (fun v3 hf => ?_)
  refine lv_iconst (v := 2) hx hb dX12_goesOn_20 (by decide) ?_
  refine jc_ne (tgt := 58) hx hb hf dX12_goesOn_21 (by decide) (fun hf => ?_) (fun hf => ?_)
  · refine lv_iload_n hx hb dX12_goesOn_58 rfl (lv_at hl 0 rfl) ?_
    refine lv_bipush (v := 17) hx hb dX12_goesOn_59 (by decide) ?_
    refine jc_ne (tgt := 121) hx hb hf dX12_goesOn_61 (by decide) (fun hf => ?_) (fun hf => ?_)
    · refine lv_aload_n hx hb dX12_goesOn_121 rfl (lv_at hl 2 rfl) ?_
      refine r_gX12_first hx hb hts hown hK hP (hts _ kw_790) dX12_goesOn_122 ?_
      refine lv_iload_n hx hb dX12_goesOn_125 rfl (lv_at hl 3 rfl) ?_
      refine lv_aload_n hx hb dX12_goesOn_126 rfl (lv_at hl 2 rfl) ?_
      refine r_gX12_came hx hb hts hown hK hP (hts _ kw_791) dX12_goesOn_127 ?_
      refine ja_lst hx hb hK (r_D hap σ) hP hS 21 1 rfl rfl r_sB6 hf dX12_goesOn_130 (fun σ4 H locs hP hS hf => ?_)
      refine lv_aload_n hx hb dX12_goesOn_131 rfl (lv_at hl 2 rfl) ?_
      refine r_gX12_stage hx hb hts hown hK hP (hts _ kw_789) dX12_goesOn_132 ?_
      refine lv_iload_n hx hb dX12_goesOn_135 rfl (lv_at hl 3 rfl) ?_
      refine lv_iconst (v := 2) hx hb dX12_goesOn_136 (by decide) ?_
      refine ja_ist hx hb hK (r_D hap σ4) hP hS 20 0 rfl rfl r_sA13 hf dX12_goesOn_137 (fun σ5 H locs hP hS hf => ?_)
      refine lv_aload_n hx hb dX12_goesOn_138 rfl (lv_at hl 2 rfl) ?_
      refine lv_iload_n hx hb dX12_goesOn_139 rfl (lv_at hl 0 rfl) ?_
      refine lv_bipush (v := 16) hx hb dX12_goesOn_140 (by decide) ?_
      refine jc_ne (tgt := 163) hx hb hf dX12_goesOn_142 (by decide) (fun hf => ?_) (fun hf => ?_)
      · exact (p_rX12_goesOn_b163 C hap) σ5 v1 hf H locs ls hP hS (lv_sub hl [2, 1] rfl)
      · refine lv_aload_n hx hb dX12_goesOn_145 rfl (lv_at hl 2 rfl) ?_
        refine r_gX12_came hx hb hts hown hK hP (hts _ kw_791) dX12_goesOn_146 ?_
        refine lv_lconst (v := 0) hx hb dX12_goesOn_149 (by decide) ?_
        refine jl_ne (tgt := 163) hx hb hf dX12_goesOn_150 dX12_goesOn_151 (by decide) (fun hf => ?_) (fun hf => ?_)
        · exact (p_rX12_goesOn_b163 C hap) σ5 v1 hf H locs ls hP hS (lv_sub hl [2, 1] rfl)
        · refine lv_aload_n hx hb dX12_goesOn_154 rfl (lv_at hl 2 rfl) ?_
          refine r_gX12_partC hx hb hts hown hK hP (hts _ kw_763) dX12_goesOn_155 ?_
          refine lv_iload_n hx hb dX12_goesOn_158 rfl (lv_at hl 1 rfl) ?_
          refine ja_ild hx hb hK hP 4 0 rfl rfl hf dX12_goesOn_159 (fun v6 hf => ?_)
          refine lv_goto (tgt := 169) hx hb dX12_goesOn_160 (by decide) ?_
          exact (p_rX12_goesOn_b169 C hap) σ5 v6 hf H locs ls hP hS (lv_sub hl [] rfl)
    · refine lv_aload_n hx hb dX12_goesOn_64 rfl (lv_at hl 2 rfl) ?_
      refine r_gX12_came hx hb hts hown hK hP (hts _ kw_791) dX12_goesOn_65 ?_
      refine lv_l2i (v := (rg_L σ 1).toInt32) hx hb dX12_goesOn_68 rfl ?_
      refine jn_i hf (fun v7 hf => ?_)
      refine lv_istore (lv' := [(4, .int v7), (3, .int v2), (2, .int v1), (0, .ref (ad 0)), (1, .int x1)]) hx hb dX12_goesOn_69 hl (by decide) rfl (fun ls hl => ?_)
      refine lv_aload_n hx hb dX12_goesOn_71 rfl (lv_at hl 3 rfl) ?_
      refine lv_iload hx hb dX12_goesOn_72 (lv_at hl 0 rfl) ?_
      refine lv_iconst (v := 0) hx hb dX12_goesOn_74 (by decide) ?_
      refine lv_iconst (v := 2) hx hb dX12_goesOn_75 (by decide) ?_
      refine jk_i hf (fun res hres => js_run hx hb hml hown hts hK hN r_hG r_hNW hl.1 (n := 3) (As := [.int v7, .int 0, .int 2]) (rest := [.ref (ad 0)]) (c_rX12_in l hap σ v7 0 2 res hres) hP kw_925 kw_923 kw_924 kw_64 ⟨rfl, rfl⟩ (by decide +kernel) rfl ⟨Nat.le_of_ble_eq_true rfl, Nat.le_of_ble_eq_true rfl⟩ rfl (Nat.le_of_ble_eq_true rfl) dX12_goesOn_76) hS (fun v8 σ9 H locs hP hS hf => ?_)
      refine jb_eq (tgt := 86) hx hb hf dX12_goesOn_79 (by decide) (fun hf => ?_) (fun hf => ?_)
      · refine lv_iconst (v := 2) hx hb dX12_goesOn_86 (by decide) ?_
        exact (p_rX12_goesOn_b87 C hap) σ9 v7 2 hf H locs ls hP hS (lv_sub hl [3, 0] rfl)
      · refine lv_iconst (v := 0) hx hb dX12_goesOn_82 (by decide) ?_
        refine lv_goto (tgt := 87) hx hb dX12_goesOn_83 (by decide) ?_
        exact (p_rX12_goesOn_b87 C hap) σ9 v7 0 hf H locs ls hP hS (lv_sub hl [3, 0] rfl)
  · refine lv_aload_n hx hb dX12_goesOn_24 rfl (lv_at hl 2 rfl) ?_
    refine lv_iload_n hx hb dX12_goesOn_25 rfl (lv_at hl 0 rfl) ?_
    refine lv_bipush (v := 16) hx hb dX12_goesOn_26 (by decide) ?_
    refine jc_ne (tgt := 38) hx hb hf dX12_goesOn_28 (by decide) (fun hf => ?_) (fun hf => ?_)
    · refine lv_aload_n hx hb dX12_goesOn_38 rfl (lv_at hl 2 rfl) ?_
      refine lv_iload_n hx hb dX12_goesOn_39 rfl (lv_at hl 0 rfl) ?_
      refine lv_aload_n hx hb dX12_goesOn_40 rfl (lv_at hl 2 rfl) ?_
      refine r_gX12_first hx hb hts hown hK hP (hts _ kw_790) dX12_goesOn_41 ?_
      refine lv_iload_n hx hb dX12_goesOn_44 rfl (lv_at hl 3 rfl) ?_
      refine ja_lld hx hb hK hP 21 1 rfl rfl hf dX12_goesOn_45 (fun v10 hf => ?_)
      refine lv_aload_n hx hb dX12_goesOn_46 rfl (lv_at hl 2 rfl) ?_
      refine r_gX12_came hx hb hts hown hK hP (hts _ kw_791) dX12_goesOn_47 ?_
      refine jk_l hf (fun res hres => jv_run hx hb hml hown hts hK hN r_hG r_hNW hl.1 (n := 3) (As := [.int v2, .long v10, .long (rg_L σ 1)]) (rest := [.ref (ad 0)]) (c_rX12_joined l hap σ v2 v10 (rg_L σ 1) res hres) hP (ci := 12) (q0 := 0) rfl rfl rfl kw_1010 kw_1007 kw_1009 kw_37 kw_64 ⟨rfl, rfl⟩ (by decide +kernel) rfl ⟨Nat.le_of_ble_eq_true rfl, Nat.le_of_ble_eq_true rfl⟩ rfl (Nat.le_of_ble_eq_true rfl) dX12_goesOn_50) hS (fun v11 σ12 H locs hP hS hf => ?_)
      exact (p_rX12_goesOn_b53 C hap) σ12 v11 hf H locs ls hP hS (lv_sub hl [] rfl)
    · refine lv_aload_n hx hb dX12_goesOn_31 rfl (lv_at hl 2 rfl) ?_
      refine r_gX12_came hx hb hts hown hK hP (hts _ kw_791) dX12_goesOn_32 ?_
      refine lv_goto (tgt := 53) hx hb dX12_goesOn_35 (by decide) ?_
      exact (p_rX12_goesOn_b53 C hap) σ (rg_L σ 1) hf H locs ls hP hS (lv_sub hl [] rfl)
theorem c_rX12_goesOn (l : Launch) {dC : Nat → ClassId} {dI : Nat → Nat → Nat} {kA : Nat → ClassId} {ad : Nat → Nat} (hap : jw_ap 32 ad) (σ : RS) (x1 : Int32) (res : Int32 × RS) (hf : s_rX12_goesOn σ x1 = some res) : jm_i l KW NW (dC, dI) vwCl (jtys kA) (jw_A 32 ad) (r_w kA ad) yX12_goesOn cX12_goesOn 5 .boolean (rm_rX12_goesOn) [.ref (ad 0), .int x1] σ res := jm_i_of (by decide) (Nat.le_of_ble_eq_true rfl) (fun p e s m below meth c C hP hS ls hl => p_rX12_goesOn C hap σ x1 hf s.heap [] ls hP hS hl)

def rm_rX12_asked : Room := { frames := 2, cells := 0, slots := 0, locals := 49 }
def G_rX12_asked_b94 (p : Program) (l : Launch) (e : Env) (s : State) (m : MethodId) (args : Array Value) (below : List Frame) (meth : Method) (c : Code) (dC : Nat → ClassId) (dI : Nat → Nat → Nat) (kA : Nat → ClassId) (ad : Nat → Nat) (res : Int32 × RS) (F : RS → Int32 → Int32 → Option (Int32 × RS)) : Prop := ∀ (σ : RS) (s0 : Int32) (s1 : Int32), F σ s0 s1 = some res → ∀ (H : Heap) (locs : List Loc) (ls : Array Slot), va_P (dC, dI) vwCl (r_w kA ad σ) H → va_S (jw_A 32 ad) s.heap H locs → lv_has ls 6 [(0, .ref (ad 0))] → W p l e rm_rX12_asked s m args below meth c H locs 0 0 (r_Qi below dC dI kA ad args s res) (F0 m 94 ls [.int s0, .int s1, .ref (ad 0)])
def G_rX12_asked_b65 (p : Program) (l : Launch) (e : Env) (s : State) (m : MethodId) (args : Array Value) (below : List Frame) (meth : Method) (c : Code) (dC : Nat → ClassId) (dI : Nat → Nat → Nat) (kA : Nat → ClassId) (ad : Nat → Nat) (res : Int32 × RS) (F : RS → Int32 → Option (Int32 × RS)) : Prop := ∀ (σ : RS) (s0 : Int32), F σ s0 = some res → ∀ (H : Heap) (locs : List Loc) (ls : Array Slot), va_P (dC, dI) vwCl (r_w kA ad σ) H → va_S (jw_A 32 ad) s.heap H locs → lv_has ls 6 [(0, .ref (ad 0))] → W p l e rm_rX12_asked s m args below meth c H locs 0 0 (r_Qi below dC dI kA ad args s res) (F0 m 65 ls [.int s0])
def G_rX12_asked_b25 (p : Program) (l : Launch) (e : Env) (s : State) (m : MethodId) (args : Array Value) (below : List Frame) (meth : Method) (c : Code) (dC : Nat → ClassId) (dI : Nat → Nat → Nat) (kA : Nat → ClassId) (ad : Nat → Nat) (res : Int32 × RS) (F : RS → Option (Int32 × RS)) : Prop := ∀ (σ : RS), F σ = some res → ∀ (H : Heap) (locs : List Loc) (ls : Array Slot), va_P (dC, dI) vwCl (r_w kA ad σ) H → va_S (jw_A 32 ad) s.heap H locs → lv_has ls 6 [(0, .ref (ad 0))] → W p l e rm_rX12_asked s m args below meth c H locs 0 0 (r_Qi below dC dI kA ad args s res) (F0 m 25 ls [])
def G_rX12_asked (p : Program) (l : Launch) (e : Env) (s : State) (m : MethodId) (args : Array Value) (below : List Frame) (meth : Method) (c : Code) (dC : Nat → ClassId) (dI : Nat → Nat → Nat) (kA : Nat → ClassId) (ad : Nat → Nat) (res : Int32 × RS) (F : RS → Int32 → Int32 → Int32 → Option (Int32 × RS)) : Prop := ∀ (σ : RS) (x1 : Int32) (x2 : Int32) (x3 : Int32), F σ x1 x2 x3 = some res → ∀ (H : Heap) (locs : List Loc) (ls : Array Slot), va_P (dC, dI) vwCl (r_w kA ad σ) H → va_S (jw_A 32 ad) s.heap H locs → lv_has ls 6 [(0, .ref (ad 0)), (1, .int x1), (2, .int x2), (3, .int x3)] → W p l e rm_rX12_asked s m args below meth c H locs 0 0 (r_Qi below dC dI kA ad args s res) (F0 m 0 ls [])
def s_rX12_asked_b94 (k25 : RS → Option (Int32 × RS)) (σ : RS) (s0 : Int32) (s1 : Int32) : Option (Int32 × RS) := kn_v (rs_I σ 9 (s1 - s0)) (fun σ1 => k25 σ1)
set_option maxRecDepth 100000 in
set_option maxHeartbeats 4000000 in
theorem p_rX12_asked_b94 {p : Program} {l : Launch} {e : Env} {s : State} {m : MethodId} {args : Array Value} {below : List Frame} {meth : Method} {c : Code} {dC : Nat → ClassId} {dI : Nat → Nat → Nat} {kA : Nat → ClassId} {ad : Nat → Nat} (C : jxc cX12_asked (some .int) 6 RX12 p s m args meth c dC dI kA) (hap : jw_ap 32 ad) {res : Int32 × RS} {k25 : RS → Option (Int32 × RS)} (hk25 : G_rX12_asked_b25 p l e s m args below meth c dC dI kA ad res k25) : G_rX12_asked_b94 p l e s m args below meth c dC dI kA ad res (s_rX12_asked_b94 k25) := by
  obtain ⟨hx, hb, hml, hown, hts, hr, hlocks, hK, hN⟩ := id C
  intro σ s0 s1 hf H locs ls hP hS hl
  unfold s_rX12_asked_b94 at hf
  refine lv_isub hx hb dX12_asked_94 ?_
  refine r_pX12_top hx hb hts hown hK hap hP hS hf (hts _ kw_787) dX12_asked_95 (fun σ1 H locs hP hS hf => ?_)
  refine lv_goto (tgt := 25) hx hb dX12_asked_98 (by decide) ?_
  exact hk25 σ1 hf H locs ls hP hS (lv_sub hl [0] rfl)
def s_rX12_asked_b65 (k25 : RS → Option (Int32 × RS)) (σ : RS) (s0 : Int32) : Option (Int32 × RS) := if (rg_I σ 10) = 0 then (if s0 = 0 then (s_rX12_asked_b94 k25 σ 0 (rg_I σ 9)) else (s_rX12_asked_b94 k25 σ 1 (rg_I σ 9))) else (some (rg_I σ 10, σ))
set_option maxRecDepth 100000 in
set_option maxHeartbeats 4000000 in
theorem p_rX12_asked_b65 {p : Program} {l : Launch} {e : Env} {s : State} {m : MethodId} {args : Array Value} {below : List Frame} {meth : Method} {c : Code} {dC : Nat → ClassId} {dI : Nat → Nat → Nat} {kA : Nat → ClassId} {ad : Nat → Nat} (C : jxc cX12_asked (some .int) 6 RX12 p s m args meth c dC dI kA) (hap : jw_ap 32 ad) {res : Int32 × RS} {k25 : RS → Option (Int32 × RS)} (hk25 : G_rX12_asked_b25 p l e s m args below meth c dC dI kA ad res k25) : G_rX12_asked_b65 p l e s m args below meth c dC dI kA ad res (s_rX12_asked_b65 k25) := by
  obtain ⟨hx, hb, hml, hown, hts, hr, hlocks, hK, hN⟩ := id C
  intro σ s0 hf H locs ls hP hS hl
  unfold s_rX12_asked_b65 at hf
  refine lv_istore (lv' := [(5, .int s0), (0, .ref (ad 0))]) hx hb dX12_asked_65 hl (by decide) rfl (fun ls hl => ?_)
  refine lv_aload_n hx hb dX12_asked_67 rfl (lv_at hl 1 rfl) ?_
  refine r_gX12_fails hx hb hts hown hK hP (hts _ kw_792) dX12_asked_68 ?_
  refine jb_eq (tgt := 79) hx hb hf dX12_asked_71 (by decide) (fun hf => ?_) (fun hf => ?_)
  · refine lv_aload_n hx hb dX12_asked_79 rfl (lv_at hl 1 rfl) ?_
    refine lv_dup hx hb dX12_asked_80 rfl ?_
    refine r_gX12_top hx hb hts hown hK hP (hts _ kw_787) dX12_asked_81 ?_
    refine lv_iload hx hb dX12_asked_84 (lv_at hl 0 rfl) ?_
    refine jb_eq (tgt := 93) hx hb hf dX12_asked_86 (by decide) (fun hf => ?_) (fun hf => ?_)
    · refine lv_iconst (v := 0) hx hb dX12_asked_93 (by decide) ?_
      exact (p_rX12_asked_b94 C hap hk25) σ 0 (rg_I σ 9) hf H locs ls hP hS (lv_sub hl [1] rfl)
    · refine lv_iconst (v := 1) hx hb dX12_asked_89 (by decide) ?_
      refine lv_goto (tgt := 94) hx hb dX12_asked_90 (by decide) ?_
      exact (p_rX12_asked_b94 C hap hk25) σ 1 (rg_I σ 9) hf H locs ls hP hS (lv_sub hl [1] rfl)
  · refine lv_aload_n hx hb dX12_asked_74 rfl (lv_at hl 1 rfl) ?_
    refine r_gX12_fails hx hb hts hown hK hP (hts _ kw_792) dX12_asked_75 ?_
    exact jr_i hx hb hr hlocks hf rfl hP hS dX12_asked_78
def s_rX12_asked_b25 (k25 : RS → Option (Int32 × RS)) (σ : RS) : Option (Int32 × RS) := if (rg_I σ 9) ≤ 0 then (some (0, σ)) else (kn_v ((rg_I σ 9) - 1) (fun v1 => kn_ld (rg_A σ 13) 44 v1 (fun v2 => if v2 = 0 then (kn_i (s_rX12_begins σ v1) (fun v5 σ6 => s_rX12_asked_b65 k25 σ6 v5)) else (kn_i (s_rX12_goesOn σ v1) (fun v3 σ4 => s_rX12_asked_b65 k25 σ4 v3)))))
set_option maxRecDepth 100000 in
set_option maxHeartbeats 4000000 in
theorem p_rX12_asked_b25 {p : Program} {l : Launch} {e : Env} {s : State} {m : MethodId} {args : Array Value} {below : List Frame} {meth : Method} {c : Code} {dC : Nat → ClassId} {dI : Nat → Nat → Nat} {kA : Nat → ClassId} {ad : Nat → Nat} (C : jxc cX12_asked (some .int) 6 RX12 p s m args meth c dC dI kA) (hap : jw_ap 32 ad) {res : Int32 × RS} {k25 : RS → Option (Int32 × RS)} (hk25 : G_rX12_asked_b25 p l e s m args below meth c dC dI kA ad res k25) : G_rX12_asked_b25 p l e s m args below meth c dC dI kA ad res (s_rX12_asked_b25 k25) := by
  obtain ⟨hx, hb, hml, hown, hts, hr, hlocks, hK, hN⟩ := id C
  intro σ hf H locs ls hP hS hl
  unfold s_rX12_asked_b25 at hf
  refine lv_aload_n hx hb dX12_asked_25 rfl (lv_at hl 0 rfl) ?_
  refine r_gX12_top hx hb hts hown hK hP (hts _ kw_787) dX12_asked_26 ?_
  refine jb_le (tgt := 101) hx hb hf dX12_asked_29 (by decide) (fun hf => ?_) (fun hf => ?_)
  · refine lv_iconst (v := 0) hx hb dX12_asked_101 (by decide) ?_
    exact jr_i hx hb hr hlocks hf rfl hP hS dX12_asked_102
  · refine lv_aload_n hx hb dX12_asked_32 rfl (lv_at hl 0 rfl) ?_
    refine r_gX12_top hx hb hts hown hK hP (hts _ kw_787) dX12_asked_33 ?_
    refine lv_iconst (v := 1) hx hb dX12_asked_36 (by decide) ?_
    refine lv_isub hx hb dX12_asked_37 ?_
    refine jn_i hf (fun v1 hf => ?_)
    refine lv_istore (lv' := [(4, .int v1), (0, .ref (ad 0))]) hx hb dX12_asked_38 hl (by decide) rfl (fun ls hl => ?_)
    refine lv_aload_n hx hb dX12_asked_40 rfl (lv_at hl 1 rfl) ?_
    refine r_gX12_stage hx hb hts hown hK hP (hts _ kw_789) dX12_asked_41 ?_
    refine lv_iload hx hb dX12_asked_44 (lv_at hl 0 rfl) ?_
    refine ja_ild hx hb hK hP 20 0 rfl rfl hf dX12_asked_46 (fun v2 hf => ?_)
    refine jb_ne (tgt := 59) hx hb hf dX12_asked_47 (by decide) (fun hf => ?_) (fun hf => ?_)
    · refine lv_aload_n hx hb dX12_asked_59 rfl (lv_at hl 1 rfl) ?_
      refine lv_iload hx hb dX12_asked_60 (lv_at hl 0 rfl) ?_
      refine jk_i hf (fun res hres => jv_run hx hb hml hown hts hK hN r_hG r_hNW hl.1 (n := 1) (As := [.int v1]) (rest := []) (c_rX12_goesOn l hap σ v1 res hres) hP (ci := 12) (q0 := 0) rfl rfl rfl kw_1006 kw_1003 kw_1005 kw_36 kw_64 ⟨rfl, rfl⟩ (by decide +kernel) rfl ⟨Nat.le_of_ble_eq_true rfl, Nat.le_of_ble_eq_true rfl⟩ rfl (Nat.le_of_ble_eq_true rfl) dX12_asked_62) hS (fun v3 σ4 H locs hP hS hf => ?_)
      exact (p_rX12_asked_b65 C hap hk25) σ4 v3 hf H locs ls hP hS (lv_sub hl [1] rfl)
    · refine lv_aload_n hx hb dX12_asked_50 rfl (lv_at hl 1 rfl) ?_
      refine lv_iload hx hb dX12_asked_51 (lv_at hl 0 rfl) ?_
      refine jk_i hf (fun res hres => jv_run hx hb hml hown hts hK hN r_hG r_hNW hl.1 (n := 1) (As := [.int v1]) (rest := []) (c_rX12_begins l hap σ v1 res hres) hP (ci := 12) (q0 := 0) rfl rfl rfl kw_998 kw_995 kw_997 kw_34 kw_64 ⟨rfl, rfl⟩ (by decide +kernel) rfl ⟨Nat.le_of_ble_eq_true rfl, Nat.le_of_ble_eq_true rfl⟩ rfl (Nat.le_of_ble_eq_true rfl) dX12_asked_53) hS (fun v5 σ6 H locs hP hS hf => ?_)
      refine lv_goto (tgt := 65) hx hb dX12_asked_56 (by decide) ?_
      exact (p_rX12_asked_b65 C hap hk25) σ6 v5 hf H locs ls hP hS (lv_sub hl [1] rfl)
def f_rX12_asked_b25 : RS → Option (Int32 × RS) := kn_fix (fun _ => none) (s_rX12_asked_b25) FU
theorem q_rX12_asked_b25 {p : Program} {l : Launch} {e : Env} {s : State} {m : MethodId} {args : Array Value} {below : List Frame} {meth : Method} {c : Code} {dC : Nat → ClassId} {dI : Nat → Nat → Nat} {kA : Nat → ClassId} {ad : Nat → Nat} (C : jxc cX12_asked (some .int) 6 RX12 p s m args meth c dC dI kA) (hap : jw_ap 32 ad) {res : Int32 × RS} : G_rX12_asked_b25 p l e s m args below meth c dC dI kA ad res (f_rX12_asked_b25) := kn_fix_ind (G := fun F => G_rX12_asked_b25 p l e s m args below meth c dC dI kA ad res F) (fun _ hf => by cases hf) (fun k25 hk25 => p_rX12_asked_b25 C hap hk25) FU
def s_rX12_asked (σ : RS) (x1 : Int32) (x2 : Int32) (x3 : Int32) : Option (Int32 × RS) := kn_v (rs_I σ 12 x2) (fun σ1 => kn_v (rs_I σ1 13 x3) (fun σ2 => kn_v (rs_I σ2 9 0) (fun σ3 => kn_v (rs_I σ3 10 0) (fun σ4 => kn_u (s_rX12_push σ4 x1) (fun σ6 => f_rX12_asked_b25 σ6)))))
set_option maxRecDepth 100000 in
set_option maxHeartbeats 4000000 in
theorem p_rX12_asked {p : Program} {l : Launch} {e : Env} {s : State} {m : MethodId} {args : Array Value} {below : List Frame} {meth : Method} {c : Code} {dC : Nat → ClassId} {dI : Nat → Nat → Nat} {kA : Nat → ClassId} {ad : Nat → Nat} (C : jxc cX12_asked (some .int) 6 RX12 p s m args meth c dC dI kA) (hap : jw_ap 32 ad) {res : Int32 × RS} : G_rX12_asked p l e s m args below meth c dC dI kA ad res (s_rX12_asked) := by
  obtain ⟨hx, hb, hml, hown, hts, hr, hlocks, hK, hN⟩ := id C
  intro σ x1 x2 x3 hf H locs ls hP hS hl
  unfold s_rX12_asked at hf
  refine lv_aload_n hx hb dX12_asked_0 rfl (lv_at hl 0 rfl) ?_
  refine lv_iload_n hx hb dX12_asked_1 rfl (lv_at hl 2 rfl) ?_
  refine r_pX12_atNode hx hb hts hown hK hap hP hS hf (hts _ kw_794) dX12_asked_2 (fun σ1 H locs hP hS hf => ?_)
  refine lv_aload_n hx hb dX12_asked_5 rfl (lv_at hl 0 rfl) ?_
  refine lv_iload_n hx hb dX12_asked_6 rfl (lv_at hl 3 rfl) ?_
  refine r_pX12_atArc hx hb hts hown hK hap hP hS hf (hts _ kw_795) dX12_asked_7 (fun σ2 H locs hP hS hf => ?_)
  refine lv_aload_n hx hb dX12_asked_10 rfl (lv_at hl 0 rfl) ?_
  refine lv_iconst (v := 0) hx hb dX12_asked_11 (by decide) ?_
  refine r_pX12_top hx hb hts hown hK hap hP hS hf (hts _ kw_787) dX12_asked_12 (fun σ3 H locs hP hS hf => ?_)
  refine lv_aload_n hx hb dX12_asked_15 rfl (lv_at hl 0 rfl) ?_
  refine lv_iconst (v := 0) hx hb dX12_asked_16 (by decide) ?_
  refine r_pX12_fails hx hb hts hown hK hap hP hS hf (hts _ kw_792) dX12_asked_17 (fun σ4 H locs hP hS hf => ?_)
  refine lv_aload_n hx hb dX12_asked_20 rfl (lv_at hl 0 rfl) ?_
  refine lv_iload_n hx hb dX12_asked_21 rfl (lv_at hl 1 rfl) ?_
  refine jk_u hf (fun res hres => jv_run hx hb hml hown hts hK hN r_hG r_hNW hl.1 (n := 1) (As := [.int x1]) (rest := []) (c_rX12_push l hap σ4 x1 res hres) hP (ci := 12) (q0 := 0) rfl rfl rfl kw_994 kw_991 kw_993 kw_33 kw_64 ⟨rfl, rfl⟩ (by decide +kernel) rfl ⟨Nat.le_of_ble_eq_true rfl, Nat.le_of_ble_eq_true rfl⟩ rfl (Nat.le_of_ble_eq_true rfl) dX12_asked_22) hS (fun σ6 H locs hP hS hf => ?_)
  exact (q_rX12_asked_b25 C hap) σ6 hf H locs ls hP hS (lv_sub hl [0] rfl)
theorem c_rX12_asked (l : Launch) {dC : Nat → ClassId} {dI : Nat → Nat → Nat} {kA : Nat → ClassId} {ad : Nat → Nat} (hap : jw_ap 32 ad) (σ : RS) (x1 : Int32) (x2 : Int32) (x3 : Int32) (res : Int32 × RS) (hf : s_rX12_asked σ x1 x2 x3 = some res) : jm_i l KW NW (dC, dI) vwCl (jtys kA) (jw_A 32 ad) (r_w kA ad) yX12_asked cX12_asked 6 .int (rm_rX12_asked) [.ref (ad 0), .int x1, .int x2, .int x3] σ res := jm_i_of (by decide) (Nat.le_of_ble_eq_true rfl) (fun p e s m below meth c C hP hS ls hl => p_rX12_asked C hap σ x1 x2 x3 hf s.heap [] ls hP hS hl)

def rm_rX12_does : Room := { frames := 3, cells := 0, slots := 0, locals := 74 }
def G_rX12_does_b28 (p : Program) (l : Launch) (e : Env) (s : State) (m : MethodId) (args : Array Value) (below : List Frame) (meth : Method) (c : Code) (dC : Nat → ClassId) (dI : Nat → Nat → Nat) (kA : Nat → ClassId) (ad : Nat → Nat) (res : Int32 × RS) (F : RS → Int32 → Option (Int32 × RS)) : Prop := ∀ (σ : RS) (x4 : Int32), F σ x4 = some res → ∀ (H : Heap) (locs : List Loc) (ls : Array Slot), va_P (dC, dI) vwCl (r_w kA ad σ) H → va_S (jw_A 32 ad) s.heap H locs → lv_has ls 5 [(4, .int x4)] → W p l e rm_rX12_does s m args below meth c H locs 0 0 (r_Qi below dC dI kA ad args s res) (F0 m 28 ls [])
def G_rX12_does (p : Program) (l : Launch) (e : Env) (s : State) (m : MethodId) (args : Array Value) (below : List Frame) (meth : Method) (c : Code) (dC : Nat → ClassId) (dI : Nat → Nat → Nat) (kA : Nat → ClassId) (ad : Nat → Nat) (res : Int32 × RS) (F : RS → Int32 → Int32 → Int32 → Option (Int32 × RS)) : Prop := ∀ (σ : RS) (x1 : Int32) (x2 : Int32) (x3 : Int32), F σ x1 x2 x3 = some res → ∀ (H : Heap) (locs : List Loc) (ls : Array Slot), va_P (dC, dI) vwCl (r_w kA ad σ) H → va_S (jw_A 32 ad) s.heap H locs → lv_has ls 5 [(0, .ref (ad 0)), (1, .int x1), (2, .int x2), (3, .int x3)] → W p l e rm_rX12_does s m args below meth c H locs 0 0 (r_Qi below dC dI kA ad args s res) (F0 m 0 ls [])
def s_rX12_does_b28 (σ : RS) (x4 : Int32) : Option (Int32 × RS) := if x4 = 0 then (some (1, σ)) else (some (0, σ))
set_option maxRecDepth 100000 in
set_option maxHeartbeats 4000000 in
theorem p_rX12_does_b28 {p : Program} {l : Launch} {e : Env} {s : State} {m : MethodId} {args : Array Value} {below : List Frame} {meth : Method} {c : Code} {dC : Nat → ClassId} {dI : Nat → Nat → Nat} {kA : Nat → ClassId} {ad : Nat → Nat} (C : jxc cX12_does (some .boolean) 5 RX12 p s m args meth c dC dI kA) (hap : jw_ap 32 ad) {res : Int32 × RS} : G_rX12_does_b28 p l e s m args below meth c dC dI kA ad res (s_rX12_does_b28) := by
  obtain ⟨hx, hb, hml, hown, hts, hr, hlocks, hK, hN⟩ := id C
  intro σ x4 hf H locs ls hP hS hl
  unfold s_rX12_does_b28 at hf
  refine lv_iload hx hb dX12_does_28 (lv_at hl 0 rfl) ?_
  refine jb_ne (tgt := 37) hx hb hf dX12_does_30 (by decide) (fun hf => ?_) (fun hf => ?_)
  · refine lv_iconst (v := 0) hx hb dX12_does_37 (by decide) ?_
    exact jr_i hx hb hr hlocks hf (by decide) hP hS dX12_does_38
  · refine lv_iconst (v := 1) hx hb dX12_does_33 (by decide) ?_
    refine lv_goto (tgt := 38) hx hb dX12_does_34 (by decide) ?_
    exact jr_i hx hb hr hlocks hf (by decide) hP hS dX12_does_38
def s_rX12_does (σ : RS) (x1 : Int32) (x2 : Int32) (x3 : Int32) : Option (Int32 × RS) := kn_ld (rg_A σ 7) 7 x1 (fun v1 => kn_i (s_rX12_asked σ v1 x2 x3) (fun v2 σ3 => if v2 = 0 then (s_rX12_does_b28 σ3 v2) else (kn_u (s_rX12_note σ3 v2 x1 x2 x3) (fun σ5 => s_rX12_does_b28 σ5 v2))))
set_option maxRecDepth 100000 in
set_option maxHeartbeats 4000000 in
theorem p_rX12_does {p : Program} {l : Launch} {e : Env} {s : State} {m : MethodId} {args : Array Value} {below : List Frame} {meth : Method} {c : Code} {dC : Nat → ClassId} {dI : Nat → Nat → Nat} {kA : Nat → ClassId} {ad : Nat → Nat} (C : jxc cX12_does (some .boolean) 5 RX12 p s m args meth c dC dI kA) (hap : jw_ap 32 ad) {res : Int32 × RS} : G_rX12_does p l e s m args below meth c dC dI kA ad res (s_rX12_does) := by
  obtain ⟨hx, hb, hml, hown, hts, hr, hlocks, hK, hN⟩ := id C
  intro σ x1 x2 x3 hf H locs ls hP hS hl
  unfold s_rX12_does at hf
  refine lv_aload_n hx hb dX12_does_0 rfl (lv_at hl 0 rfl) ?_
  refine lv_aload_n hx hb dX12_does_1 rfl (lv_at hl 0 rfl) ?_
  refine r_gX12_acts hx hb hts hown hK hP (hts _ kw_772) dX12_does_2 ?_
  refine lv_iload_n hx hb dX12_does_5 rfl (lv_at hl 1 rfl) ?_
  refine ja_ild hx hb hK hP 11 0 rfl rfl hf dX12_does_6 (fun v1 hf => ?_)
  refine lv_iload_n hx hb dX12_does_7 rfl (lv_at hl 2 rfl) ?_
  refine lv_iload_n hx hb dX12_does_8 rfl (lv_at hl 3 rfl) ?_
  refine jk_i hf (fun res hres => jv_run hx hb hml hown hts hK hN r_hG r_hNW hl.1 (n := 3) (As := [.int v1, .int x2, .int x3]) (rest := []) (c_rX12_asked l hap σ v1 x2 x3 res hres) hP (ci := 12) (q0 := 0) rfl rfl rfl kw_990 kw_987 kw_989 kw_32 kw_64 ⟨rfl, rfl⟩ (by decide +kernel) rfl ⟨Nat.le_of_ble_eq_true rfl, Nat.le_of_ble_eq_true rfl⟩ rfl (Nat.le_of_ble_eq_true rfl) dX12_does_9) hS (fun v2 σ3 H locs hP hS hf => ?_)
  refine lv_istore (lv' := [(4, .int v2), (0, .ref (ad 0)), (1, .int x1), (2, .int x2), (3, .int x3)]) hx hb dX12_does_12 hl (by decide) rfl (fun ls hl => ?_)
  refine lv_iload hx hb dX12_does_14 (lv_at hl 0 rfl) ?_
  refine jb_eq (tgt := 28) hx hb hf dX12_does_16 (by decide) (fun hf => ?_) (fun hf => ?_)
  · exact (p_rX12_does_b28 C hap) σ3 v2 hf H locs ls hP hS (lv_sub hl [0] rfl)
  · refine lv_aload_n hx hb dX12_does_19 rfl (lv_at hl 1 rfl) ?_
    refine lv_iload hx hb dX12_does_20 (lv_at hl 0 rfl) ?_
    refine lv_iload_n hx hb dX12_does_22 rfl (lv_at hl 2 rfl) ?_
    refine lv_iload_n hx hb dX12_does_23 rfl (lv_at hl 3 rfl) ?_
    refine lv_iload_n hx hb dX12_does_24 rfl (lv_at hl 4 rfl) ?_
    refine jk_u hf (fun res hres => jv_run hx hb hml hown hts hK hN r_hG r_hNW hl.1 (n := 4) (As := [.int v2, .int x1, .int x2, .int x3]) (rest := []) (c_rX12_note l hap σ3 v2 x1 x2 x3 res hres) hP (ci := 12) (q0 := 0) rfl rfl rfl kw_1014 kw_1011 kw_1013 kw_38 kw_64 ⟨rfl, rfl⟩ (by decide +kernel) rfl ⟨Nat.le_of_ble_eq_true rfl, Nat.le_of_ble_eq_true rfl⟩ rfl (Nat.le_of_ble_eq_true rfl) dX12_does_25) hS (fun σ5 H locs hP hS hf => ?_)
    exact (p_rX12_does_b28 C hap) σ5 v2 hf H locs ls hP hS (lv_sub hl [0] rfl)
theorem c_rX12_does (l : Launch) {dC : Nat → ClassId} {dI : Nat → Nat → Nat} {kA : Nat → ClassId} {ad : Nat → Nat} (hap : jw_ap 32 ad) (σ : RS) (x1 : Int32) (x2 : Int32) (x3 : Int32) (res : Int32 × RS) (hf : s_rX12_does σ x1 x2 x3 = some res) : jm_i l KW NW (dC, dI) vwCl (jtys kA) (jw_A 32 ad) (r_w kA ad) yX12_does cX12_does 5 .boolean (rm_rX12_does) [.ref (ad 0), .int x1, .int x2, .int x3] σ res := jm_i_of (by decide) (Nat.le_of_ble_eq_true rfl) (fun p e s m below meth c C hP hS ls hl => p_rX12_does C hap σ x1 x2 x3 hf s.heap [] ls hP hS hl)

def rm_rX12_askArc : Room := { frames := 4, cells := 0, slots := 0, locals := 98 }
def G_rX12_askArc_b79 (p : Program) (l : Launch) (e : Env) (s : State) (m : MethodId) (args : Array Value) (below : List Frame) (meth : Method) (c : Code) (dC : Nat → ClassId) (dI : Nat → Nat → Nat) (kA : Nat → ClassId) (ad : Nat → Nat) (res : RS) (F : RS → Option (RS)) : Prop := ∀ (σ : RS), F σ = some res → ∀ (H : Heap) (locs : List Loc) (ls : Array Slot), va_P (dC, dI) vwCl (r_w kA ad σ) H → va_S (jw_A 32 ad) s.heap H locs → lv_has ls 2 [(0, .ref (ad 0))] → W p l e rm_rX12_askArc s m args below meth c H locs 0 0 (r_Qu below dC dI kA ad args s res) (F0 m 79 ls [])
def G_rX12_askArc_b40 (p : Program) (l : Launch) (e : Env) (s : State) (m : MethodId) (args : Array Value) (below : List Frame) (meth : Method) (c : Code) (dC : Nat → ClassId) (dI : Nat → Nat → Nat) (kA : Nat → ClassId) (ad : Nat → Nat) (res : RS) (F : RS → Int32 → Option (RS)) : Prop := ∀ (σ : RS) (x1 : Int32), F σ x1 = some res → ∀ (H : Heap) (locs : List Loc) (ls : Array Slot), va_P (dC, dI) vwCl (r_w kA ad σ) H → va_S (jw_A 32 ad) s.heap H locs → lv_has ls 2 [(0, .ref (ad 0)), (1, .int x1)] → W p l e rm_rX12_askArc s m args below meth c H locs 0 0 (r_Qu below dC dI kA ad args s res) (F0 m 40 ls [])
def G_rX12_askArc (p : Program) (l : Launch) (e : Env) (s : State) (m : MethodId) (args : Array Value) (below : List Frame) (meth : Method) (c : Code) (dC : Nat → ClassId) (dI : Nat → Nat → Nat) (kA : Nat → ClassId) (ad : Nat → Nat) (res : RS) (F : RS → Int32 → Option (RS)) : Prop := ∀ (σ : RS) (x1 : Int32), F σ x1 = some res → ∀ (H : Heap) (locs : List Loc) (ls : Array Slot), va_P (dC, dI) vwCl (r_w kA ad σ) H → va_S (jw_A 32 ad) s.heap H locs → lv_has ls 2 [(0, .ref (ad 0)), (1, .int x1)] → W p l e rm_rX12_askArc s m args below meth c H locs 0 0 (r_Qu below dC dI kA ad args s res) (F0 m 0 ls [])
def s_rX12_askArc_b79 (σ : RS) : Option (RS) := kn_v (rs_I σ 16 1) (fun σ1 => some σ1)
set_option maxRecDepth 100000 in
set_option maxHeartbeats 4000000 in
theorem p_rX12_askArc_b79 {p : Program} {l : Launch} {e : Env} {s : State} {m : MethodId} {args : Array Value} {below : List Frame} {meth : Method} {c : Code} {dC : Nat → ClassId} {dI : Nat → Nat → Nat} {kA : Nat → ClassId} {ad : Nat → Nat} (C : jxc cX12_askArc none 2 RX12 p s m args meth c dC dI kA) (hap : jw_ap 32 ad) {res : RS} : G_rX12_askArc_b79 p l e s m args below meth c dC dI kA ad res (s_rX12_askArc_b79) := by
  obtain ⟨hx, hb, hml, hown, hts, hr, hlocks, hK, hN⟩ := id C
  intro σ hf H locs ls hP hS hl
  unfold s_rX12_askArc_b79 at hf
  refine lv_aload_n hx hb dX12_askArc_79 rfl (lv_at hl 0 rfl) ?_
  refine lv_iconst (v := 1) hx hb dX12_askArc_80 (by decide) ?_
  refine r_pX12_sends hx hb hts hown hK hap hP hS hf (by decide) (by decide) (hts _ kw_802) dX12_askArc_81 (fun σ1 H locs hP hS hf => ?_)
  exact jr_u hx hb hr hlocks hf hP hS dX12_askArc_84
def s_rX12_askArc_b40 (σ : RS) (x1 : Int32) : Option (RS) := kn_v (rs_L σ 3 1) (fun σ1 => kn_ld (rg_A σ1 7) 7 1 (fun v2 => if v2 = (-1) then (s_rX12_askArc_b79 σ1) else (kn_ld (rg_A σ1 5) 40 x1 (fun v3 => kn_i (s_rX12_does σ1 1 v3 x1) (fun v4 σ5 => if v4 = 0 then some σ5 else (kn_v (rs_L σ5 3 (rg_L σ5 1)) (fun σ6 => s_rX12_askArc_b79 σ6)))))))
set_option maxRecDepth 100000 in
set_option maxHeartbeats 4000000 in
theorem p_rX12_askArc_b40 {p : Program} {l : Launch} {e : Env} {s : State} {m : MethodId} {args : Array Value} {below : List Frame} {meth : Method} {c : Code} {dC : Nat → ClassId} {dI : Nat → Nat → Nat} {kA : Nat → ClassId} {ad : Nat → Nat} (C : jxc cX12_askArc none 2 RX12 p s m args meth c dC dI kA) (hap : jw_ap 32 ad) {res : RS} : G_rX12_askArc_b40 p l e s m args below meth c dC dI kA ad res (s_rX12_askArc_b40) := by
  obtain ⟨hx, hb, hml, hown, hts, hr, hlocks, hK, hN⟩ := id C
  intro σ x1 hf H locs ls hP hS hl
  unfold s_rX12_askArc_b40 at hf
  refine lv_aload_n hx hb dX12_askArc_40 rfl (lv_at hl 0 rfl) ?_
  refine lv_lconst (v := 1) hx hb dX12_askArc_41 (by decide) ?_
  refine r_pX12_message hx hb hts hown hK hap hP hS hf (hts _ kw_803) dX12_askArc_42 (fun σ1 H locs hP hS hf => ?_)
  refine lv_aload_n hx hb dX12_askArc_45 rfl (lv_at hl 0 rfl) ?_
  refine r_gX12_acts hx hb hts hown hK hP (hts _ kw_772) dX12_askArc_46 ?_
  refine lv_iconst (v := 1) hx hb dX12_askArc_49 (by decide) ?_
  refine ja_ild hx hb hK hP 11 0 rfl rfl hf dX12_askArc_50 (fun v2 hf => ?_)
  refine lv_iconst (v := (-1)) hx hb dX12_askArc_51 (by decide) ?_
  refine jc_eq (tgt := 79) hx hb hf dX12_askArc_52 (by decide) (fun hf => ?_) (fun hf => ?_)
  · exact (p_rX12_askArc_b79 C hap) σ1 hf H locs ls hP hS (lv_sub hl [0] rfl)
  · refine lv_aload_n hx hb dX12_askArc_55 rfl (lv_at hl 0 rfl) ?_
    refine lv_iconst (v := 1) hx hb dX12_askArc_56 (by decide) ?_
    refine lv_aload_n hx hb dX12_askArc_57 rfl (lv_at hl 0 rfl) ?_
    refine r_gX12_from hx hb hts hown hK hP (hts _ kw_769) dX12_askArc_58 ?_
    refine lv_iload_n hx hb dX12_askArc_61 rfl (lv_at hl 1 rfl) ?_
    refine ja_ild hx hb hK hP 8 0 rfl rfl hf dX12_askArc_62 (fun v3 hf => ?_)
    refine lv_iload_n hx hb dX12_askArc_63 rfl (lv_at hl 1 rfl) ?_
    refine jk_i hf (fun res hres => jv_run hx hb hml hown hts hK hN r_hG r_hNW hl.1 (n := 3) (As := [.int 1, .int v3, .int x1]) (rest := []) (c_rX12_does l hap σ1 1 v3 x1 res hres) hP (ci := 12) (q0 := 0) rfl rfl rfl kw_986 kw_983 kw_985 kw_31 kw_64 ⟨rfl, rfl⟩ (by decide +kernel) rfl ⟨Nat.le_of_ble_eq_true rfl, Nat.le_of_ble_eq_true rfl⟩ rfl (Nat.le_of_ble_eq_true rfl) dX12_askArc_64) hS (fun v4 σ5 H locs hP hS hf => ?_)
    refine jb_ne (tgt := 71) hx hb hf dX12_askArc_67 (by decide) (fun hf => ?_) (fun hf => ?_)
    · refine lv_aload_n hx hb dX12_askArc_71 rfl (lv_at hl 0 rfl) ?_
      refine lv_aload_n hx hb dX12_askArc_72 rfl (lv_at hl 0 rfl) ?_
      refine r_gX12_came hx hb hts hown hK hP (hts _ kw_791) dX12_askArc_73 ?_
      refine r_pX12_message hx hb hts hown hK hap hP hS hf (hts _ kw_803) dX12_askArc_76 (fun σ6 H locs hP hS hf => ?_)
      exact (p_rX12_askArc_b79 C hap) σ6 hf H locs ls hP hS (lv_sub hl [0] rfl)
    · exact jr_u hx hb hr hlocks hf hP hS dX12_askArc_70
def s_rX12_askArc (σ : RS) (x1 : Int32) : Option (RS) := kn_v (rs_I σ 16 0) (fun σ1 => kn_ld (rg_A σ1 7) 7 0 (fun v2 => if v2 = (-1) then (s_rX12_askArc_b40 σ1 x1) else (kn_ld (rg_A σ1 5) 40 x1 (fun v3 => kn_i (s_rX12_does σ1 0 v3 x1) (fun v4 σ5 => if v4 = 0 then some σ5 else (if (rg_L σ5 1) = 0 then some σ5 else (s_rX12_askArc_b40 σ5 x1)))))))
set_option maxRecDepth 100000 in
set_option maxHeartbeats 4000000 in
theorem p_rX12_askArc {p : Program} {l : Launch} {e : Env} {s : State} {m : MethodId} {args : Array Value} {below : List Frame} {meth : Method} {c : Code} {dC : Nat → ClassId} {dI : Nat → Nat → Nat} {kA : Nat → ClassId} {ad : Nat → Nat} (C : jxc cX12_askArc none 2 RX12 p s m args meth c dC dI kA) (hap : jw_ap 32 ad) {res : RS} : G_rX12_askArc p l e s m args below meth c dC dI kA ad res (s_rX12_askArc) := by
  obtain ⟨hx, hb, hml, hown, hts, hr, hlocks, hK, hN⟩ := id C
  intro σ x1 hf H locs ls hP hS hl
  unfold s_rX12_askArc at hf
  refine lv_aload_n hx hb dX12_askArc_0 rfl (lv_at hl 0 rfl) ?_
  refine lv_iconst (v := 0) hx hb dX12_askArc_1 (by decide) ?_
  refine r_pX12_sends hx hb hts hown hK hap hP hS hf (by decide) (by decide) (hts _ kw_802) dX12_askArc_2 (fun σ1 H locs hP hS hf => ?_)
  refine lv_aload_n hx hb dX12_askArc_5 rfl (lv_at hl 0 rfl) ?_
  refine r_gX12_acts hx hb hts hown hK hP (hts _ kw_772) dX12_askArc_6 ?_
  refine lv_iconst (v := 0) hx hb dX12_askArc_9 (by decide) ?_
  refine ja_ild hx hb hK hP 11 0 rfl rfl hf dX12_askArc_10 (fun v2 hf => ?_)
  refine lv_iconst (v := (-1)) hx hb dX12_askArc_11 (by decide) ?_
  refine jc_eq (tgt := 40) hx hb hf dX12_askArc_12 (by decide) (fun hf => ?_) (fun hf => ?_)
  · exact (p_rX12_askArc_b40 C hap) σ1 x1 hf H locs ls hP hS (lv_sub hl [0, 1] rfl)
  · refine lv_aload_n hx hb dX12_askArc_15 rfl (lv_at hl 0 rfl) ?_
    refine lv_iconst (v := 0) hx hb dX12_askArc_16 (by decide) ?_
    refine lv_aload_n hx hb dX12_askArc_17 rfl (lv_at hl 0 rfl) ?_
    refine r_gX12_from hx hb hts hown hK hP (hts _ kw_769) dX12_askArc_18 ?_
    refine lv_iload_n hx hb dX12_askArc_21 rfl (lv_at hl 1 rfl) ?_
    refine ja_ild hx hb hK hP 8 0 rfl rfl hf dX12_askArc_22 (fun v3 hf => ?_)
    refine lv_iload_n hx hb dX12_askArc_23 rfl (lv_at hl 1 rfl) ?_
    refine jk_i hf (fun res hres => jv_run hx hb hml hown hts hK hN r_hG r_hNW hl.1 (n := 3) (As := [.int 0, .int v3, .int x1]) (rest := []) (c_rX12_does l hap σ1 0 v3 x1 res hres) hP (ci := 12) (q0 := 0) rfl rfl rfl kw_986 kw_983 kw_985 kw_31 kw_64 ⟨rfl, rfl⟩ (by decide +kernel) rfl ⟨Nat.le_of_ble_eq_true rfl, Nat.le_of_ble_eq_true rfl⟩ rfl (Nat.le_of_ble_eq_true rfl) dX12_askArc_24) hS (fun v4 σ5 H locs hP hS hf => ?_)
    refine jb_eq (tgt := 39) hx hb hf dX12_askArc_27 (by decide) (fun hf => ?_) (fun hf => ?_)
    · exact jr_u hx hb hr hlocks hf hP hS dX12_askArc_39
    · refine lv_aload_n hx hb dX12_askArc_30 rfl (lv_at hl 0 rfl) ?_
      refine r_gX12_came hx hb hts hown hK hP (hts _ kw_791) dX12_askArc_31 ?_
      refine lv_lconst (v := 0) hx hb dX12_askArc_34 (by decide) ?_
      refine jl_ne (tgt := 40) hx hb hf dX12_askArc_35 dX12_askArc_36 (by decide) (fun hf => ?_) (fun hf => ?_)
      · exact (p_rX12_askArc_b40 C hap) σ5 x1 hf H locs ls hP hS (lv_sub hl [0, 1] rfl)
      · exact jr_u hx hb hr hlocks hf hP hS dX12_askArc_39
theorem c_rX12_askArc (l : Launch) {dC : Nat → ClassId} {dI : Nat → Nat → Nat} {kA : Nat → ClassId} {ad : Nat → Nat} (hap : jw_ap 32 ad) (σ : RS) (x1 : Int32) (res : RS) (hf : s_rX12_askArc σ x1 = some res) : jm_u l KW NW (dC, dI) vwCl (jtys kA) (jw_A 32 ad) (r_w kA ad) yX12_askArc cX12_askArc 2 (rm_rX12_askArc) [.ref (ad 0), .int x1] σ res := jm_u_of (by decide) (Nat.le_of_ble_eq_true rfl) (fun p e s m below meth c C hP hS ls hl => p_rX12_askArc C hap σ x1 hf s.heap [] ls hP hS hl)

def rm_rX12_sendAlong : Room := { frames := 5, cells := 0, slots := 0, locals := 119 }
def G_rX12_sendAlong (p : Program) (l : Launch) (e : Env) (s : State) (m : MethodId) (args : Array Value) (below : List Frame) (meth : Method) (c : Code) (dC : Nat → ClassId) (dI : Nat → Nat → Nat) (kA : Nat → ClassId) (ad : Nat → Nat) (res : RS) (F : RS → Int32 → Option (RS)) : Prop := ∀ (σ : RS) (x1 : Int32), F σ x1 = some res → ∀ (H : Heap) (locs : List Loc) (ls : Array Slot), va_P (dC, dI) vwCl (r_w kA ad σ) H → va_S (jw_A 32 ad) s.heap H locs → lv_has ls 2 [(0, .ref (ad 0)), (1, .int x1)] → W p l e rm_rX12_sendAlong s m args below meth c H locs 0 0 (r_Qu below dC dI kA ad args s res) (F0 m 0 ls [])
def s_rX12_sendAlong (σ : RS) (x1 : Int32) : Option (RS) := kn_u (s_rX12_askArc σ x1) (fun σ2 => if (rg_I σ2 16) = 0 then some σ2 else (kn_i (s_rX12_isFailed σ2) (fun v3 σ4 => if v3 = 0 then (kn_st (rs_A σ4 14 (upd (rg_A σ4 14) x1.toNatClampNeg 1)) 40 x1 (fun σ5 => kn_st (rs_B σ5 7 (vp_updL (rg_B σ5 7) x1.toNatClampNeg (rg_L σ5 3))) 40 x1 (fun σ6 => kn_st (rs_A σ6 15 (upd (rg_A σ6 15) (rg_I σ6 15).toNatClampNeg x1)) 40 (rg_I σ6 15) (fun σ7 => kn_v (rs_I σ7 15 ((rg_I σ7 15) + 1)) (fun σ8 => some σ8))))) else some σ4)))
set_option maxRecDepth 100000 in
set_option maxHeartbeats 4000000 in
theorem p_rX12_sendAlong {p : Program} {l : Launch} {e : Env} {s : State} {m : MethodId} {args : Array Value} {below : List Frame} {meth : Method} {c : Code} {dC : Nat → ClassId} {dI : Nat → Nat → Nat} {kA : Nat → ClassId} {ad : Nat → Nat} (C : jxc cX12_sendAlong none 2 RX12 p s m args meth c dC dI kA) (hap : jw_ap 32 ad) {res : RS} : G_rX12_sendAlong p l e s m args below meth c dC dI kA ad res (s_rX12_sendAlong) := by
  obtain ⟨hx, hb, hml, hown, hts, hr, hlocks, hK, hN⟩ := id C
  intro σ x1 hf H locs ls hP hS hl
  unfold s_rX12_sendAlong at hf
  refine lv_aload_n hx hb dX12_sendAlong_0 rfl (lv_at hl 0 rfl) ?_
  refine lv_iload_n hx hb dX12_sendAlong_1 rfl (lv_at hl 1 rfl) ?_
  refine jk_u hf (fun res hres => jv_run hx hb hml hown hts hK hN r_hG r_hNW hl.1 (n := 1) (As := [.int x1]) (rest := []) (c_rX12_askArc l hap σ x1 res hres) hP (ci := 12) (q0 := 0) rfl rfl rfl kw_982 kw_979 kw_981 kw_30 kw_64 ⟨rfl, rfl⟩ (by decide +kernel) rfl ⟨Nat.le_of_ble_eq_true rfl, Nat.le_of_ble_eq_true rfl⟩ rfl (Nat.le_of_ble_eq_true rfl) dX12_sendAlong_2) hS (fun σ2 H locs hP hS hf => ?_)
  refine lv_aload_n hx hb dX12_sendAlong_5 rfl (lv_at hl 0 rfl) ?_
  refine r_gX12_sends hx hb hts hown hK hP (hts _ kw_802) dX12_sendAlong_6 ?_
  refine jb_eq (tgt := 56) hx hb hf dX12_sendAlong_9 (by decide) (fun hf => ?_) (fun hf => ?_)
  · exact jr_u hx hb hr hlocks hf hP hS dX12_sendAlong_56
  · refine lv_aload_n hx hb dX12_sendAlong_12 rfl (lv_at hl 0 rfl) ?_
    refine jk_i hf (fun res hres => jv_run hx hb hml hown hts hK hN r_hG r_hNW hl.1 (n := 0) (As := []) (rest := []) (c_rX12_isFailed l hap σ2 res hres) hP (ci := 12) (q0 := 0) rfl rfl rfl kw_974 kw_971 kw_973 kw_28 kw_64 ⟨rfl, rfl⟩ (by decide +kernel) rfl ⟨Nat.le_of_ble_eq_true rfl, Nat.le_of_ble_eq_true rfl⟩ rfl (Nat.le_of_ble_eq_true rfl) dX12_sendAlong_13) hS (fun v3 σ4 H locs hP hS hf => ?_)
    refine jb_ne (tgt := 56) hx hb hf dX12_sendAlong_16 (by decide) (fun hf => ?_) (fun hf => ?_)
    · exact jr_u hx hb hr hlocks hf hP hS dX12_sendAlong_56
    · refine lv_aload_n hx hb dX12_sendAlong_19 rfl (lv_at hl 0 rfl) ?_
      refine r_gX12_goes hx hb hts hown hK hP (hts _ kw_798) dX12_sendAlong_20 ?_
      refine lv_iload_n hx hb dX12_sendAlong_23 rfl (lv_at hl 1 rfl) ?_
      refine lv_iconst (v := 1) hx hb dX12_sendAlong_24 (by decide) ?_
      refine ja_zst hx hb hK (r_D hap σ4) hP hS 22 2 rfl rfl (by decide) r_sA14 hf dX12_sendAlong_25 (fun σ5 H locs hP hS hf => ?_)
      refine lv_aload_n hx hb dX12_sendAlong_26 rfl (lv_at hl 0 rfl) ?_
      refine r_gX12_messages hx hb hts hown hK hP (hts _ kw_799) dX12_sendAlong_27 ?_
      refine lv_iload_n hx hb dX12_sendAlong_30 rfl (lv_at hl 1 rfl) ?_
      refine lv_aload_n hx hb dX12_sendAlong_31 rfl (lv_at hl 0 rfl) ?_
      refine r_gX12_message hx hb hts hown hK hP (hts _ kw_803) dX12_sendAlong_32 ?_
      refine ja_lst hx hb hK (r_D hap σ5) hP hS 23 1 rfl rfl r_sB7 hf dX12_sendAlong_35 (fun σ6 H locs hP hS hf => ?_)
      refine lv_aload_n hx hb dX12_sendAlong_36 rfl (lv_at hl 0 rfl) ?_
      refine r_gX12_sentArcs hx hb hts hown hK hP (hts _ kw_801) dX12_sendAlong_37 ?_
      refine lv_aload_n hx hb dX12_sendAlong_40 rfl (lv_at hl 0 rfl) ?_
      refine r_gX12_sent hx hb hts hown hK hP (hts _ kw_800) dX12_sendAlong_41 ?_
      refine lv_iload_n hx hb dX12_sendAlong_44 rfl (lv_at hl 1 rfl) ?_
      refine ja_ist hx hb hK (r_D hap σ6) hP hS 24 0 rfl rfl r_sA15 hf dX12_sendAlong_45 (fun σ7 H locs hP hS hf => ?_)
      refine lv_aload_n hx hb dX12_sendAlong_46 rfl (lv_at hl 0 rfl) ?_
      refine lv_dup hx hb dX12_sendAlong_47 rfl ?_
      refine r_gX12_sent hx hb hts hown hK hP (hts _ kw_800) dX12_sendAlong_48 ?_
      refine lv_iconst (v := 1) hx hb dX12_sendAlong_51 (by decide) ?_
      refine lv_iadd hx hb dX12_sendAlong_52 ?_
      refine r_pX12_sent hx hb hts hown hK hap hP hS hf (hts _ kw_800) dX12_sendAlong_53 (fun σ8 H locs hP hS hf => ?_)
      exact jr_u hx hb hr hlocks hf hP hS dX12_sendAlong_56
theorem c_rX12_sendAlong (l : Launch) {dC : Nat → ClassId} {dI : Nat → Nat → Nat} {kA : Nat → ClassId} {ad : Nat → Nat} (hap : jw_ap 32 ad) (σ : RS) (x1 : Int32) (res : RS) (hf : s_rX12_sendAlong σ x1 = some res) : jm_u l KW NW (dC, dI) vwCl (jtys kA) (jw_A 32 ad) (r_w kA ad) yX12_sendAlong cX12_sendAlong 2 (rm_rX12_sendAlong) [.ref (ad 0), .int x1] σ res := jm_u_of (by decide) (Nat.le_of_ble_eq_true rfl) (fun p e s m below meth c C hP hS ls hl => p_rX12_sendAlong C hap σ x1 hf s.heap [] ls hP hS hl)

def rm_rX12_sendAll : Room := { frames := 6, cells := 0, slots := 0, locals := 140 }
def G_rX12_sendAll_b133 (p : Program) (l : Launch) (e : Env) (s : State) (m : MethodId) (args : Array Value) (below : List Frame) (meth : Method) (c : Code) (dC : Nat → ClassId) (dI : Nat → Nat → Nat) (kA : Nat → ClassId) (ad : Nat → Nat) (res : RS) (F : RS → Int32 → Int32 → Option (RS)) : Prop := ∀ (σ : RS) (x1 : Int32) (x2 : Int32), F σ x1 x2 = some res → ∀ (H : Heap) (locs : List Loc) (ls : Array Slot), va_P (dC, dI) vwCl (r_w kA ad σ) H → va_S (jw_A 32 ad) s.heap H locs → lv_has ls 5 [(0, .ref (ad 0)), (1, .int x1), (2, .int x2)] → W p l e rm_rX12_sendAll s m args below meth c H locs 0 0 (r_Qu below dC dI kA ad args s res) (F0 m 133 ls [])
def G_rX12_sendAll_b127 (p : Program) (l : Launch) (e : Env) (s : State) (m : MethodId) (args : Array Value) (below : List Frame) (meth : Method) (c : Code) (dC : Nat → ClassId) (dI : Nat → Nat → Nat) (kA : Nat → ClassId) (ad : Nat → Nat) (res : RS) (F : RS → Int32 → Int32 → Int32 → Option (RS)) : Prop := ∀ (σ : RS) (x1 : Int32) (x2 : Int32) (x3 : Int32), F σ x1 x2 x3 = some res → ∀ (H : Heap) (locs : List Loc) (ls : Array Slot), va_P (dC, dI) vwCl (r_w kA ad σ) H → va_S (jw_A 32 ad) s.heap H locs → lv_has ls 5 [(0, .ref (ad 0)), (1, .int x1), (2, .int x2), (3, .int x3)] → W p l e rm_rX12_sendAll s m args below meth c H locs 0 0 (r_Qu below dC dI kA ad args s res) (F0 m 127 ls [])
def G_rX12_sendAll_b115 (p : Program) (l : Launch) (e : Env) (s : State) (m : MethodId) (args : Array Value) (below : List Frame) (meth : Method) (c : Code) (dC : Nat → ClassId) (dI : Nat → Nat → Nat) (kA : Nat → ClassId) (ad : Nat → Nat) (res : RS) (F : RS → Int32 → Int32 → Int32 → Int32 → Option (RS)) : Prop := ∀ (σ : RS) (x1 : Int32) (x2 : Int32) (x3 : Int32) (s0 : Int32), F σ x1 x2 x3 s0 = some res → ∀ (H : Heap) (locs : List Loc) (ls : Array Slot), va_P (dC, dI) vwCl (r_w kA ad σ) H → va_S (jw_A 32 ad) s.heap H locs → lv_has ls 5 [(0, .ref (ad 0)), (1, .int x1), (2, .int x2), (3, .int x3)] → W p l e rm_rX12_sendAll s m args below meth c H locs 0 0 (r_Qu below dC dI kA ad args s res) (F0 m 115 ls [.int s0])
def G_rX12_sendAll_b114 (p : Program) (l : Launch) (e : Env) (s : State) (m : MethodId) (args : Array Value) (below : List Frame) (meth : Method) (c : Code) (dC : Nat → ClassId) (dI : Nat → Nat → Nat) (kA : Nat → ClassId) (ad : Nat → Nat) (res : RS) (F : RS → Int32 → Int32 → Int32 → Option (RS)) : Prop := ∀ (σ : RS) (x1 : Int32) (x2 : Int32) (x3 : Int32), F σ x1 x2 x3 = some res → ∀ (H : Heap) (locs : List Loc) (ls : Array Slot), va_P (dC, dI) vwCl (r_w kA ad σ) H → va_S (jw_A 32 ad) s.heap H locs → lv_has ls 5 [(0, .ref (ad 0)), (1, .int x1), (2, .int x2), (3, .int x3)] → W p l e rm_rX12_sendAll s m args below meth c H locs 0 0 (r_Qu below dC dI kA ad args s res) (F0 m 114 ls [])
def G_rX12_sendAll_b82 (p : Program) (l : Launch) (e : Env) (s : State) (m : MethodId) (args : Array Value) (below : List Frame) (meth : Method) (c : Code) (dC : Nat → ClassId) (dI : Nat → Nat → Nat) (kA : Nat → ClassId) (ad : Nat → Nat) (res : RS) (F : RS → Int32 → Int32 → Int32 → Option (RS)) : Prop := ∀ (σ : RS) (x1 : Int32) (x2 : Int32) (x3 : Int32), F σ x1 x2 x3 = some res → ∀ (H : Heap) (locs : List Loc) (ls : Array Slot), va_P (dC, dI) vwCl (r_w kA ad σ) H → va_S (jw_A 32 ad) s.heap H locs → lv_has ls 5 [(0, .ref (ad 0)), (1, .int x1), (2, .int x2), (3, .int x3)] → W p l e rm_rX12_sendAll s m args below meth c H locs 0 0 (r_Qu below dC dI kA ad args s res) (F0 m 82 ls [])
def G_rX12_sendAll_b40 (p : Program) (l : Launch) (e : Env) (s : State) (m : MethodId) (args : Array Value) (below : List Frame) (meth : Method) (c : Code) (dC : Nat → ClassId) (dI : Nat → Nat → Nat) (kA : Nat → ClassId) (ad : Nat → Nat) (res : RS) (F : RS → Int32 → Int32 → Int32 → Option (RS)) : Prop := ∀ (σ : RS) (x1 : Int32) (x2 : Int32) (x3 : Int32), F σ x1 x2 x3 = some res → ∀ (H : Heap) (locs : List Loc) (ls : Array Slot), va_P (dC, dI) vwCl (r_w kA ad σ) H → va_S (jw_A 32 ad) s.heap H locs → lv_has ls 5 [(0, .ref (ad 0)), (1, .int x1), (2, .int x2), (3, .int x3)] → W p l e rm_rX12_sendAll s m args below meth c H locs 0 0 (r_Qu below dC dI kA ad args s res) (F0 m 40 ls [])
def G_rX12_sendAll_b30 (p : Program) (l : Launch) (e : Env) (s : State) (m : MethodId) (args : Array Value) (below : List Frame) (meth : Method) (c : Code) (dC : Nat → ClassId) (dI : Nat → Nat → Nat) (kA : Nat → ClassId) (ad : Nat → Nat) (res : RS) (F : RS → Int32 → Int32 → Option (RS)) : Prop := ∀ (σ : RS) (x1 : Int32) (x2 : Int32), F σ x1 x2 = some res → ∀ (H : Heap) (locs : List Loc) (ls : Array Slot), va_P (dC, dI) vwCl (r_w kA ad σ) H → va_S (jw_A 32 ad) s.heap H locs → lv_has ls 5 [(0, .ref (ad 0)), (1, .int x1), (2, .int x2)] → W p l e rm_rX12_sendAll s m args below meth c H locs 0 0 (r_Qu below dC dI kA ad args s res) (F0 m 30 ls [])
def G_rX12_sendAll_b28 (p : Program) (l : Launch) (e : Env) (s : State) (m : MethodId) (args : Array Value) (below : List Frame) (meth : Method) (c : Code) (dC : Nat → ClassId) (dI : Nat → Nat → Nat) (kA : Nat → ClassId) (ad : Nat → Nat) (res : RS) (F : RS → Int32 → Option (RS)) : Prop := ∀ (σ : RS) (x1 : Int32), F σ x1 = some res → ∀ (H : Heap) (locs : List Loc) (ls : Array Slot), va_P (dC, dI) vwCl (r_w kA ad σ) H → va_S (jw_A 32 ad) s.heap H locs → lv_has ls 5 [(0, .ref (ad 0)), (1, .int x1)] → W p l e rm_rX12_sendAll s m args below meth c H locs 0 0 (r_Qu below dC dI kA ad args s res) (F0 m 28 ls [])
def G_rX12_sendAll_b7 (p : Program) (l : Launch) (e : Env) (s : State) (m : MethodId) (args : Array Value) (below : List Frame) (meth : Method) (c : Code) (dC : Nat → ClassId) (dI : Nat → Nat → Nat) (kA : Nat → ClassId) (ad : Nat → Nat) (res : RS) (F : RS → Int32 → Int32 → Option (RS)) : Prop := ∀ (σ : RS) (x1 : Int32) (x2 : Int32), F σ x1 x2 = some res → ∀ (H : Heap) (locs : List Loc) (ls : Array Slot), va_P (dC, dI) vwCl (r_w kA ad σ) H → va_S (jw_A 32 ad) s.heap H locs → lv_has ls 5 [(0, .ref (ad 0)), (1, .int x1), (2, .int x2)] → W p l e rm_rX12_sendAll s m args below meth c H locs 0 0 (r_Qu below dC dI kA ad args s res) (F0 m 7 ls [])
def G_rX12_sendAll (p : Program) (l : Launch) (e : Env) (s : State) (m : MethodId) (args : Array Value) (below : List Frame) (meth : Method) (c : Code) (dC : Nat → ClassId) (dI : Nat → Nat → Nat) (kA : Nat → ClassId) (ad : Nat → Nat) (res : RS) (F : RS → Int32 → Option (RS)) : Prop := ∀ (σ : RS) (x1 : Int32), F σ x1 = some res → ∀ (H : Heap) (locs : List Loc) (ls : Array Slot), va_P (dC, dI) vwCl (r_w kA ad σ) H → va_S (jw_A 32 ad) s.heap H locs → lv_has ls 5 [(0, .ref (ad 0)), (1, .int x1)] → W p l e rm_rX12_sendAll s m args below meth c H locs 0 0 (r_Qu below dC dI kA ad args s res) (F0 m 0 ls [])
def s_rX12_sendAll_b133 (k30 : RS → Int32 → Int32 → Option (RS)) (σ : RS) (x1 : Int32) (x2 : Int32) : Option (RS) := kn_v (x2 + 1) (fun v1 => k30 σ x1 v1)
set_option maxRecDepth 100000 in
set_option maxHeartbeats 4000000 in
theorem p_rX12_sendAll_b133 {p : Program} {l : Launch} {e : Env} {s : State} {m : MethodId} {args : Array Value} {below : List Frame} {meth : Method} {c : Code} {dC : Nat → ClassId} {dI : Nat → Nat → Nat} {kA : Nat → ClassId} {ad : Nat → Nat} (C : jxc cX12_sendAll none 5 RX12 p s m args meth c dC dI kA) (hap : jw_ap 32 ad) {res : RS} {k30 : RS → Int32 → Int32 → Option (RS)} (hk30 : G_rX12_sendAll_b30 p l e s m args below meth c dC dI kA ad res k30) : G_rX12_sendAll_b133 p l e s m args below meth c dC dI kA ad res (s_rX12_sendAll_b133 k30) := by
  obtain ⟨hx, hb, hml, hown, hts, hr, hlocks, hK, hN⟩ := id C
  intro σ x1 x2 hf H locs ls hP hS hl
  unfold s_rX12_sendAll_b133 at hf
  obtain ⟨v1, e_v1, hf⟩ := kn_v_e hf
  refine lv_iinc (v := v1) (lv' := [(2, .int v1), (0, .ref (ad 0)), (1, .int x1)]) hx hb dX12_sendAll_133 hl (k := 2) rfl e_v1 (by decide) rfl (fun ls hl => ?_)
  refine lv_goto (tgt := 30) hx hb dX12_sendAll_136 (by decide) ?_
  exact hk30 σ x1 v1 hf H locs ls hP hS (lv_sub hl [1, 2, 0] rfl)
def s_rX12_sendAll_b127 (k30 : RS → Int32 → Int32 → Option (RS)) (k40 : RS → Int32 → Int32 → Int32 → Option (RS)) (σ : RS) (x1 : Int32) (x2 : Int32) (x3 : Int32) : Option (RS) := kn_v (x3 + 1) (fun v1 => k40 σ x1 x2 v1)
set_option maxRecDepth 100000 in
set_option maxHeartbeats 4000000 in
theorem p_rX12_sendAll_b127 {p : Program} {l : Launch} {e : Env} {s : State} {m : MethodId} {args : Array Value} {below : List Frame} {meth : Method} {c : Code} {dC : Nat → ClassId} {dI : Nat → Nat → Nat} {kA : Nat → ClassId} {ad : Nat → Nat} (C : jxc cX12_sendAll none 5 RX12 p s m args meth c dC dI kA) (hap : jw_ap 32 ad) {res : RS} {k30 : RS → Int32 → Int32 → Option (RS)} (hk30 : G_rX12_sendAll_b30 p l e s m args below meth c dC dI kA ad res k30) {k40 : RS → Int32 → Int32 → Int32 → Option (RS)} (hk40 : G_rX12_sendAll_b40 p l e s m args below meth c dC dI kA ad res k40) : G_rX12_sendAll_b127 p l e s m args below meth c dC dI kA ad res (s_rX12_sendAll_b127 k30 k40) := by
  obtain ⟨hx, hb, hml, hown, hts, hr, hlocks, hK, hN⟩ := id C
  intro σ x1 x2 x3 hf H locs ls hP hS hl
  unfold s_rX12_sendAll_b127 at hf
  obtain ⟨v1, e_v1, hf⟩ := kn_v_e hf
  refine lv_iinc (v := v1) (lv' := [(3, .int v1), (0, .ref (ad 0)), (1, .int x1), (2, .int x2)]) hx hb dX12_sendAll_127 hl (k := 3) rfl e_v1 (by decide) rfl (fun ls hl => ?_)
  refine lv_goto (tgt := 40) hx hb dX12_sendAll_130 (by decide) ?_
  exact hk40 σ x1 x2 v1 hf H locs ls hP hS (lv_sub hl [1, 2, 3, 0] rfl)
def s_rX12_sendAll_b115 (k30 : RS → Int32 → Int32 → Option (RS)) (k40 : RS → Int32 → Int32 → Int32 → Option (RS)) (σ : RS) (x1 : Int32) (x2 : Int32) (x3 : Int32) (s0 : Int32) : Option (RS) := if s0 = 0 then (s_rX12_sendAll_b127 k30 k40 σ x1 x2 x3) else (kn_u (s_rX12_sendAlong σ x3) (fun σ2 => s_rX12_sendAll_b127 k30 k40 σ2 x1 x2 x3))
set_option maxRecDepth 100000 in
set_option maxHeartbeats 4000000 in
theorem p_rX12_sendAll_b115 {p : Program} {l : Launch} {e : Env} {s : State} {m : MethodId} {args : Array Value} {below : List Frame} {meth : Method} {c : Code} {dC : Nat → ClassId} {dI : Nat → Nat → Nat} {kA : Nat → ClassId} {ad : Nat → Nat} (C : jxc cX12_sendAll none 5 RX12 p s m args meth c dC dI kA) (hap : jw_ap 32 ad) {res : RS} {k30 : RS → Int32 → Int32 → Option (RS)} (hk30 : G_rX12_sendAll_b30 p l e s m args below meth c dC dI kA ad res k30) {k40 : RS → Int32 → Int32 → Int32 → Option (RS)} (hk40 : G_rX12_sendAll_b40 p l e s m args below meth c dC dI kA ad res k40) : G_rX12_sendAll_b115 p l e s m args below meth c dC dI kA ad res (s_rX12_sendAll_b115 k30 k40) := by
  obtain ⟨hx, hb, hml, hown, hts, hr, hlocks, hK, hN⟩ := id C
  intro σ x1 x2 x3 s0 hf H locs ls hP hS hl
  unfold s_rX12_sendAll_b115 at hf
  refine lv_istore (lv' := [(4, .int s0), (0, .ref (ad 0)), (1, .int x1), (2, .int x2), (3, .int x3)]) hx hb dX12_sendAll_115 hl (by decide) rfl (fun ls hl => ?_)
  refine lv_iload hx hb dX12_sendAll_117 (lv_at hl 0 rfl) ?_
  refine jb_eq (tgt := 127) hx hb hf dX12_sendAll_119 (by decide) (fun hf => ?_) (fun hf => ?_)
  · exact (p_rX12_sendAll_b127 C hap hk30 hk40) σ x1 x2 x3 hf H locs ls hP hS (lv_sub hl [1, 2, 3, 4] rfl)
  · refine lv_aload_n hx hb dX12_sendAll_122 rfl (lv_at hl 1 rfl) ?_
    refine lv_iload_n hx hb dX12_sendAll_123 rfl (lv_at hl 4 rfl) ?_
    refine jk_u hf (fun res hres => jv_run hx hb hml hown hts hK hN r_hG r_hNW hl.1 (n := 1) (As := [.int x3]) (rest := []) (c_rX12_sendAlong l hap σ x3 res hres) hP (ci := 12) (q0 := 0) rfl rfl rfl kw_1038 kw_1035 kw_1037 kw_44 kw_64 ⟨rfl, rfl⟩ (by decide +kernel) rfl ⟨Nat.le_of_ble_eq_true rfl, Nat.le_of_ble_eq_true rfl⟩ rfl (Nat.le_of_ble_eq_true rfl) dX12_sendAll_124) hS (fun σ2 H locs hP hS hf => ?_)
    exact (p_rX12_sendAll_b127 C hap hk30 hk40) σ2 x1 x2 x3 hf H locs ls hP hS (lv_sub hl [1, 2, 3, 4] rfl)
def s_rX12_sendAll_b114 (k30 : RS → Int32 → Int32 → Option (RS)) (k40 : RS → Int32 → Int32 → Int32 → Option (RS)) (σ : RS) (x1 : Int32) (x2 : Int32) (x3 : Int32) : Option (RS) := s_rX12_sendAll_b115 k30 k40 σ x1 x2 x3 0
set_option maxRecDepth 100000 in
set_option maxHeartbeats 4000000 in
theorem p_rX12_sendAll_b114 {p : Program} {l : Launch} {e : Env} {s : State} {m : MethodId} {args : Array Value} {below : List Frame} {meth : Method} {c : Code} {dC : Nat → ClassId} {dI : Nat → Nat → Nat} {kA : Nat → ClassId} {ad : Nat → Nat} (C : jxc cX12_sendAll none 5 RX12 p s m args meth c dC dI kA) (hap : jw_ap 32 ad) {res : RS} {k30 : RS → Int32 → Int32 → Option (RS)} (hk30 : G_rX12_sendAll_b30 p l e s m args below meth c dC dI kA ad res k30) {k40 : RS → Int32 → Int32 → Int32 → Option (RS)} (hk40 : G_rX12_sendAll_b40 p l e s m args below meth c dC dI kA ad res k40) : G_rX12_sendAll_b114 p l e s m args below meth c dC dI kA ad res (s_rX12_sendAll_b114 k30 k40) := by
  obtain ⟨hx, hb, hml, hown, hts, hr, hlocks, hK, hN⟩ := id C
  intro σ x1 x2 x3 hf H locs ls hP hS hl
  unfold s_rX12_sendAll_b114 at hf
  refine lv_iconst (v := 0) hx hb dX12_sendAll_114 (by decide) ?_
  exact (p_rX12_sendAll_b115 C hap hk30 hk40) σ x1 x2 x3 0 hf H locs ls hP hS (lv_sub hl [0, 1, 2, 3] rfl)
def s_rX12_sendAll_b82 (k30 : RS → Int32 → Int32 → Option (RS)) (k40 : RS → Int32 → Int32 → Int32 → Option (RS)) (σ : RS) (x1 : Int32) (x2 : Int32) (x3 : Int32) : Option (RS) := s_rX12_sendAll_b115 k30 k40 σ x1 x2 x3 0
set_option maxRecDepth 100000 in
set_option maxHeartbeats 4000000 in
theorem p_rX12_sendAll_b82 {p : Program} {l : Launch} {e : Env} {s : State} {m : MethodId} {args : Array Value} {below : List Frame} {meth : Method} {c : Code} {dC : Nat → ClassId} {dI : Nat → Nat → Nat} {kA : Nat → ClassId} {ad : Nat → Nat} (C : jxc cX12_sendAll none 5 RX12 p s m args meth c dC dI kA) (hap : jw_ap 32 ad) {res : RS} {k30 : RS → Int32 → Int32 → Option (RS)} (hk30 : G_rX12_sendAll_b30 p l e s m args below meth c dC dI kA ad res k30) {k40 : RS → Int32 → Int32 → Int32 → Option (RS)} (hk40 : G_rX12_sendAll_b40 p l e s m args below meth c dC dI kA ad res k40) : G_rX12_sendAll_b82 p l e s m args below meth c dC dI kA ad res (s_rX12_sendAll_b82 k30 k40) := by
  obtain ⟨hx, hb, hml, hown, hts, hr, hlocks, hK, hN⟩ := id C
  intro σ x1 x2 x3 hf H locs ls hP hS hl
  unfold s_rX12_sendAll_b82 at hf
  refine lv_iconst (v := 0) hx hb dX12_sendAll_82 (by decide) ?_
  refine lv_goto (tgt := 115) hx hb dX12_sendAll_83 (by decide) ?_
  exact (p_rX12_sendAll_b115 C hap hk30 hk40) σ x1 x2 x3 0 hf H locs ls hP hS (lv_sub hl [0, 1, 2, 3] rfl)
def s_rX12_sendAll_b40 (k30 : RS → Int32 → Int32 → Option (RS)) (k40 : RS → Int32 → Int32 → Int32 → Option (RS)) (σ : RS) (x1 : Int32) (x2 : Int32) (x3 : Int32) : Option (RS) := if (rg_I σ 2) ≤ x3 then (s_rX12_sendAll_b133 k30 σ x1 x2) else (kn_i (s_rX12_isFailed σ) (fun v1 σ2 => if v1 = 0 then (if x1 = 0 then (kn_ld (rg_A σ2 5) 40 x3 (fun v6 => if v6 = x2 then (kn_ld (rg_A σ2 4) 12 x2 (fun v7 => if v7 = 0 then (s_rX12_sendAll_b82 k30 k40 σ2 x1 x2 x3) else (s_rX12_sendAll_b115 k30 k40 σ2 x1 x2 x3 1))) else (s_rX12_sendAll_b82 k30 k40 σ2 x1 x2 x3))) else (kn_ld (rg_A σ2 6) 40 x3 (fun v3 => if v3 = x2 then (kn_ld (rg_A σ2 5) 40 x3 (fun v4 => kn_ld (rg_A σ2 4) 12 v4 (fun v5 => if v5 = 0 then (s_rX12_sendAll_b114 k30 k40 σ2 x1 x2 x3) else (s_rX12_sendAll_b115 k30 k40 σ2 x1 x2 x3 1)))) else (s_rX12_sendAll_b114 k30 k40 σ2 x1 x2 x3)))) else (s_rX12_sendAll_b133 k30 σ2 x1 x2)))
set_option maxRecDepth 100000 in
set_option maxHeartbeats 4000000 in
theorem p_rX12_sendAll_b40 {p : Program} {l : Launch} {e : Env} {s : State} {m : MethodId} {args : Array Value} {below : List Frame} {meth : Method} {c : Code} {dC : Nat → ClassId} {dI : Nat → Nat → Nat} {kA : Nat → ClassId} {ad : Nat → Nat} (C : jxc cX12_sendAll none 5 RX12 p s m args meth c dC dI kA) (hap : jw_ap 32 ad) {res : RS} {k30 : RS → Int32 → Int32 → Option (RS)} (hk30 : G_rX12_sendAll_b30 p l e s m args below meth c dC dI kA ad res k30) {k40 : RS → Int32 → Int32 → Int32 → Option (RS)} (hk40 : G_rX12_sendAll_b40 p l e s m args below meth c dC dI kA ad res k40) : G_rX12_sendAll_b40 p l e s m args below meth c dC dI kA ad res (s_rX12_sendAll_b40 k30 k40) := by
  obtain ⟨hx, hb, hml, hown, hts, hr, hlocks, hK, hN⟩ := id C
  intro σ x1 x2 x3 hf H locs ls hP hS hl
  unfold s_rX12_sendAll_b40 at hf
  refine lv_iload_n hx hb dX12_sendAll_40 rfl (lv_at hl 3 rfl) ?_
  refine lv_aload_n hx hb dX12_sendAll_41 rfl (lv_at hl 0 rfl) ?_
  refine r_gX12_arcs hx hb hts hown hK hP (hts _ kw_768) dX12_sendAll_42 ?_
  refine jc_ge (tgt := 133) hx hb hf dX12_sendAll_45 (by decide) (fun hf => ?_) (fun hf => ?_)
  · exact (p_rX12_sendAll_b133 C hap hk30) σ x1 x2 hf H locs ls hP hS (lv_sub hl [0, 1, 2] rfl)
  · refine lv_aload_n hx hb dX12_sendAll_48 rfl (lv_at hl 0 rfl) ?_
    refine jk_i hf (fun res hres => jv_run hx hb hml hown hts hK hN r_hG r_hNW hl.1 (n := 0) (As := []) (rest := []) (c_rX12_isFailed l hap σ res hres) hP (ci := 12) (q0 := 0) rfl rfl rfl kw_974 kw_971 kw_973 kw_28 kw_64 ⟨rfl, rfl⟩ (by decide +kernel) rfl ⟨Nat.le_of_ble_eq_true rfl, Nat.le_of_ble_eq_true rfl⟩ rfl (Nat.le_of_ble_eq_true rfl) dX12_sendAll_49) hS (fun v1 σ2 H locs hP hS hf => ?_)
    refine jb_ne (tgt := 133) hx hb hf dX12_sendAll_52 (by decide) (fun hf => ?_) (fun hf => ?_)
    · exact (p_rX12_sendAll_b133 C hap hk30) σ2 x1 x2 hf H locs ls hP hS (lv_sub hl [0, 1, 2] rfl)
    · refine lv_iload_n hx hb dX12_sendAll_55 rfl (lv_at hl 1 rfl) ?_
      refine jb_ne (tgt := 86) hx hb hf dX12_sendAll_56 (by decide) (fun hf => ?_) (fun hf => ?_)
      · refine lv_aload_n hx hb dX12_sendAll_86 rfl (lv_at hl 0 rfl) ?_
        refine r_gX12_to hx hb hts hown hK hP (hts _ kw_770) dX12_sendAll_87 ?_
        refine lv_iload_n hx hb dX12_sendAll_90 rfl (lv_at hl 3 rfl) ?_
        refine ja_ild hx hb hK hP 9 0 rfl rfl hf dX12_sendAll_91 (fun v3 hf => ?_)
        refine lv_iload_n hx hb dX12_sendAll_92 rfl (lv_at hl 2 rfl) ?_
        refine jc_ne (tgt := 114) hx hb hf dX12_sendAll_93 (by decide) (fun hf => ?_) (fun hf => ?_)
        · exact (p_rX12_sendAll_b114 C hap hk30 hk40) σ2 x1 x2 x3 hf H locs ls hP hS (lv_sub hl [0, 1, 2, 3] rfl)
        · refine lv_aload_n hx hb dX12_sendAll_96 rfl (lv_at hl 0 rfl) ?_
          refine r_gX12_awake hx hb hts hown hK hP (hts _ kw_767) dX12_sendAll_97 ?_
          refine lv_aload_n hx hb dX12_sendAll_100 rfl (lv_at hl 0 rfl) ?_
          refine r_gX12_from hx hb hts hown hK hP (hts _ kw_769) dX12_sendAll_101 ?_
          refine lv_iload_n hx hb dX12_sendAll_104 rfl (lv_at hl 3 rfl) ?_
          refine ja_ild hx hb hK hP 8 0 rfl rfl hf dX12_sendAll_105 (fun v4 hf => ?_)
          refine ja_zld hx hb hK hP 7 2 rfl rfl hf dX12_sendAll_106 (fun v5 hf => ?_)
          refine jb_eq (tgt := 114) hx hb hf dX12_sendAll_107 (by decide) (fun hf => ?_) (fun hf => ?_)
          · exact (p_rX12_sendAll_b114 C hap hk30 hk40) σ2 x1 x2 x3 hf H locs ls hP hS (lv_sub hl [0, 1, 2, 3] rfl)
          · refine lv_iconst (v := 1) hx hb dX12_sendAll_110 (by decide) ?_
            refine lv_goto (tgt := 115) hx hb dX12_sendAll_111 (by decide) ?_
            exact (p_rX12_sendAll_b115 C hap hk30 hk40) σ2 x1 x2 x3 1 hf H locs ls hP hS (lv_sub hl [0, 1, 2, 3] rfl)
      · refine lv_aload_n hx hb dX12_sendAll_59 rfl (lv_at hl 0 rfl) ?_
        refine r_gX12_from hx hb hts hown hK hP (hts _ kw_769) dX12_sendAll_60 ?_
        refine lv_iload_n hx hb dX12_sendAll_63 rfl (lv_at hl 3 rfl) ?_
        refine ja_ild hx hb hK hP 8 0 rfl rfl hf dX12_sendAll_64 (fun v6 hf => ?_)
        refine lv_iload_n hx hb dX12_sendAll_65 rfl (lv_at hl 2 rfl) ?_
        refine jc_ne (tgt := 82) hx hb hf dX12_sendAll_66 (by decide) (fun hf => ?_) (fun hf => ?_)
        · exact (p_rX12_sendAll_b82 C hap hk30 hk40) σ2 x1 x2 x3 hf H locs ls hP hS (lv_sub hl [0, 1, 2, 3] rfl)
        · refine lv_aload_n hx hb dX12_sendAll_69 rfl (lv_at hl 0 rfl) ?_
          refine r_gX12_awake hx hb hts hown hK hP (hts _ kw_767) dX12_sendAll_70 ?_
          refine lv_iload_n hx hb dX12_sendAll_73 rfl (lv_at hl 2 rfl) ?_
          refine ja_zld hx hb hK hP 7 2 rfl rfl hf dX12_sendAll_74 (fun v7 hf => ?_)
          refine jb_eq (tgt := 82) hx hb hf dX12_sendAll_75 (by decide) (fun hf => ?_) (fun hf => ?_)
          · exact (p_rX12_sendAll_b82 C hap hk30 hk40) σ2 x1 x2 x3 hf H locs ls hP hS (lv_sub hl [0, 1, 2, 3] rfl)
          · refine lv_iconst (v := 1) hx hb dX12_sendAll_78 (by decide) ?_
            refine lv_goto (tgt := 115) hx hb dX12_sendAll_79 (by decide) ?_
            exact (p_rX12_sendAll_b115 C hap hk30 hk40) σ2 x1 x2 x3 1 hf H locs ls hP hS (lv_sub hl [0, 1, 2, 3] rfl)
def f_rX12_sendAll_b40 (k30 : RS → Int32 → Int32 → Option (RS)) : RS → Int32 → Int32 → Int32 → Option (RS) := kn_fix (fun _ _ _ _ => none) (s_rX12_sendAll_b40 k30) FU
theorem q_rX12_sendAll_b40 {p : Program} {l : Launch} {e : Env} {s : State} {m : MethodId} {args : Array Value} {below : List Frame} {meth : Method} {c : Code} {dC : Nat → ClassId} {dI : Nat → Nat → Nat} {kA : Nat → ClassId} {ad : Nat → Nat} (C : jxc cX12_sendAll none 5 RX12 p s m args meth c dC dI kA) (hap : jw_ap 32 ad) {res : RS} {k30 : RS → Int32 → Int32 → Option (RS)} (hk30 : G_rX12_sendAll_b30 p l e s m args below meth c dC dI kA ad res k30) : G_rX12_sendAll_b40 p l e s m args below meth c dC dI kA ad res (f_rX12_sendAll_b40 k30) := kn_fix_ind (G := fun F => G_rX12_sendAll_b40 p l e s m args below meth c dC dI kA ad res F) (fun _ _ _ _ hf => by cases hf) (fun k40 hk40 => p_rX12_sendAll_b40 C hap hk30 hk40) FU
def s_rX12_sendAll_b30 (k30 : RS → Int32 → Int32 → Option (RS)) (σ : RS) (x1 : Int32) (x2 : Int32) : Option (RS) := if (rg_I σ 1) ≤ x2 then some σ else (f_rX12_sendAll_b40 k30 σ x1 x2 0)
set_option maxRecDepth 100000 in
set_option maxHeartbeats 4000000 in
theorem p_rX12_sendAll_b30 {p : Program} {l : Launch} {e : Env} {s : State} {m : MethodId} {args : Array Value} {below : List Frame} {meth : Method} {c : Code} {dC : Nat → ClassId} {dI : Nat → Nat → Nat} {kA : Nat → ClassId} {ad : Nat → Nat} (C : jxc cX12_sendAll none 5 RX12 p s m args meth c dC dI kA) (hap : jw_ap 32 ad) {res : RS} {k30 : RS → Int32 → Int32 → Option (RS)} (hk30 : G_rX12_sendAll_b30 p l e s m args below meth c dC dI kA ad res k30) : G_rX12_sendAll_b30 p l e s m args below meth c dC dI kA ad res (s_rX12_sendAll_b30 k30) := by
  obtain ⟨hx, hb, hml, hown, hts, hr, hlocks, hK, hN⟩ := id C
  intro σ x1 x2 hf H locs ls hP hS hl
  unfold s_rX12_sendAll_b30 at hf
  refine lv_iload_n hx hb dX12_sendAll_30 rfl (lv_at hl 2 rfl) ?_
  refine lv_aload_n hx hb dX12_sendAll_31 rfl (lv_at hl 0 rfl) ?_
  refine r_gX12_nodes hx hb hts hown hK hP (hts _ kw_765) dX12_sendAll_32 ?_
  refine jc_ge (tgt := 139) hx hb hf dX12_sendAll_35 (by decide) (fun hf => ?_) (fun hf => ?_)
  · exact jr_u hx hb hr hlocks hf hP hS dX12_sendAll_139
  · refine lv_iconst (v := 0) hx hb dX12_sendAll_38 (by decide) ?_
    refine lv_istore_n (lv' := [(3, .int 0), (0, .ref (ad 0)), (1, .int x1), (2, .int x2)]) hx hb dX12_sendAll_39 rfl hl (by decide) rfl (fun ls hl => ?_)
    exact (q_rX12_sendAll_b40 C hap hk30) σ x1 x2 0 hf H locs ls hP hS (lv_sub hl [1, 2, 3, 0] rfl)
def f_rX12_sendAll_b30 : RS → Int32 → Int32 → Option (RS) := kn_fix (fun _ _ _ => none) (s_rX12_sendAll_b30) FU
theorem q_rX12_sendAll_b30 {p : Program} {l : Launch} {e : Env} {s : State} {m : MethodId} {args : Array Value} {below : List Frame} {meth : Method} {c : Code} {dC : Nat → ClassId} {dI : Nat → Nat → Nat} {kA : Nat → ClassId} {ad : Nat → Nat} (C : jxc cX12_sendAll none 5 RX12 p s m args meth c dC dI kA) (hap : jw_ap 32 ad) {res : RS} : G_rX12_sendAll_b30 p l e s m args below meth c dC dI kA ad res (f_rX12_sendAll_b30) := kn_fix_ind (G := fun F => G_rX12_sendAll_b30 p l e s m args below meth c dC dI kA ad res F) (fun _ _ _ hf => by cases hf) (fun k30 hk30 => p_rX12_sendAll_b30 C hap hk30) FU
def s_rX12_sendAll_b28 (σ : RS) (x1 : Int32) : Option (RS) := f_rX12_sendAll_b30 σ x1 0
set_option maxRecDepth 100000 in
set_option maxHeartbeats 4000000 in
theorem p_rX12_sendAll_b28 {p : Program} {l : Launch} {e : Env} {s : State} {m : MethodId} {args : Array Value} {below : List Frame} {meth : Method} {c : Code} {dC : Nat → ClassId} {dI : Nat → Nat → Nat} {kA : Nat → ClassId} {ad : Nat → Nat} (C : jxc cX12_sendAll none 5 RX12 p s m args meth c dC dI kA) (hap : jw_ap 32 ad) {res : RS} : G_rX12_sendAll_b28 p l e s m args below meth c dC dI kA ad res (s_rX12_sendAll_b28) := by
  obtain ⟨hx, hb, hml, hown, hts, hr, hlocks, hK, hN⟩ := id C
  intro σ x1 hf H locs ls hP hS hl
  unfold s_rX12_sendAll_b28 at hf
  refine lv_iconst (v := 0) hx hb dX12_sendAll_28 (by decide) ?_
  refine lv_istore_n (lv' := [(2, .int 0), (0, .ref (ad 0)), (1, .int x1)]) hx hb dX12_sendAll_29 rfl hl (by decide) rfl (fun ls hl => ?_)
  exact (q_rX12_sendAll_b30 C hap) σ x1 0 hf H locs ls hP hS (lv_sub hl [1, 2, 0] rfl)
def s_rX12_sendAll_b7 (k7 : RS → Int32 → Int32 → Option (RS)) (σ : RS) (x1 : Int32) (x2 : Int32) : Option (RS) := if (rg_I σ 2) ≤ x2 then (s_rX12_sendAll_b28 σ x1) else (kn_st (rs_A σ 14 (upd (rg_A σ 14) x2.toNatClampNeg 0)) 40 x2 (fun σ1 => kn_v (x2 + 1) (fun v2 => k7 σ1 x1 v2)))
set_option maxRecDepth 100000 in
set_option maxHeartbeats 4000000 in
theorem p_rX12_sendAll_b7 {p : Program} {l : Launch} {e : Env} {s : State} {m : MethodId} {args : Array Value} {below : List Frame} {meth : Method} {c : Code} {dC : Nat → ClassId} {dI : Nat → Nat → Nat} {kA : Nat → ClassId} {ad : Nat → Nat} (C : jxc cX12_sendAll none 5 RX12 p s m args meth c dC dI kA) (hap : jw_ap 32 ad) {res : RS} {k7 : RS → Int32 → Int32 → Option (RS)} (hk7 : G_rX12_sendAll_b7 p l e s m args below meth c dC dI kA ad res k7) : G_rX12_sendAll_b7 p l e s m args below meth c dC dI kA ad res (s_rX12_sendAll_b7 k7) := by
  obtain ⟨hx, hb, hml, hown, hts, hr, hlocks, hK, hN⟩ := id C
  intro σ x1 x2 hf H locs ls hP hS hl
  unfold s_rX12_sendAll_b7 at hf
  refine lv_iload_n hx hb dX12_sendAll_7 rfl (lv_at hl 2 rfl) ?_
  refine lv_aload_n hx hb dX12_sendAll_8 rfl (lv_at hl 0 rfl) ?_
  refine r_gX12_arcs hx hb hts hown hK hP (hts _ kw_768) dX12_sendAll_9 ?_
  refine jc_ge (tgt := 28) hx hb hf dX12_sendAll_12 (by decide) (fun hf => ?_) (fun hf => ?_)
  · exact (p_rX12_sendAll_b28 C hap) σ x1 hf H locs ls hP hS (lv_sub hl [0, 1] rfl)
  · refine lv_aload_n hx hb dX12_sendAll_15 rfl (lv_at hl 0 rfl) ?_
    refine r_gX12_goes hx hb hts hown hK hP (hts _ kw_798) dX12_sendAll_16 ?_
    refine lv_iload_n hx hb dX12_sendAll_19 rfl (lv_at hl 2 rfl) ?_
    refine lv_iconst (v := 0) hx hb dX12_sendAll_20 (by decide) ?_
    refine ja_zst hx hb hK (r_D hap σ) hP hS 22 2 rfl rfl (by decide) r_sA14 hf dX12_sendAll_21 (fun σ1 H locs hP hS hf => ?_)
    obtain ⟨v2, e_v2, hf⟩ := kn_v_e hf
    refine lv_iinc (v := v2) (lv' := [(2, .int v2), (0, .ref (ad 0)), (1, .int x1)]) hx hb dX12_sendAll_22 hl (k := 2) rfl e_v2 (by decide) rfl (fun ls hl => ?_)
    refine lv_goto (tgt := 7) hx hb dX12_sendAll_25 (by decide) ?_
    exact hk7 σ1 x1 v2 hf H locs ls hP hS (lv_sub hl [1, 2, 0] rfl)
def f_rX12_sendAll_b7 : RS → Int32 → Int32 → Option (RS) := kn_fix (fun _ _ _ => none) (s_rX12_sendAll_b7) FU
theorem q_rX12_sendAll_b7 {p : Program} {l : Launch} {e : Env} {s : State} {m : MethodId} {args : Array Value} {below : List Frame} {meth : Method} {c : Code} {dC : Nat → ClassId} {dI : Nat → Nat → Nat} {kA : Nat → ClassId} {ad : Nat → Nat} (C : jxc cX12_sendAll none 5 RX12 p s m args meth c dC dI kA) (hap : jw_ap 32 ad) {res : RS} : G_rX12_sendAll_b7 p l e s m args below meth c dC dI kA ad res (f_rX12_sendAll_b7) := kn_fix_ind (G := fun F => G_rX12_sendAll_b7 p l e s m args below meth c dC dI kA ad res F) (fun _ _ _ hf => by cases hf) (fun k7 hk7 => p_rX12_sendAll_b7 C hap hk7) FU
def s_rX12_sendAll (σ : RS) (x1 : Int32) : Option (RS) := kn_v (rs_I σ 15 0) (fun σ1 => f_rX12_sendAll_b7 σ1 x1 0)
set_option maxRecDepth 100000 in
set_option maxHeartbeats 4000000 in
theorem p_rX12_sendAll {p : Program} {l : Launch} {e : Env} {s : State} {m : MethodId} {args : Array Value} {below : List Frame} {meth : Method} {c : Code} {dC : Nat → ClassId} {dI : Nat → Nat → Nat} {kA : Nat → ClassId} {ad : Nat → Nat} (C : jxc cX12_sendAll none 5 RX12 p s m args meth c dC dI kA) (hap : jw_ap 32 ad) {res : RS} : G_rX12_sendAll p l e s m args below meth c dC dI kA ad res (s_rX12_sendAll) := by
  obtain ⟨hx, hb, hml, hown, hts, hr, hlocks, hK, hN⟩ := id C
  intro σ x1 hf H locs ls hP hS hl
  unfold s_rX12_sendAll at hf
  refine lv_aload_n hx hb dX12_sendAll_0 rfl (lv_at hl 0 rfl) ?_
  refine lv_iconst (v := 0) hx hb dX12_sendAll_1 (by decide) ?_
  refine r_pX12_sent hx hb hts hown hK hap hP hS hf (hts _ kw_800) dX12_sendAll_2 (fun σ1 H locs hP hS hf => ?_)
  refine lv_iconst (v := 0) hx hb dX12_sendAll_5 (by decide) ?_
  refine lv_istore_n (lv' := [(2, .int 0), (0, .ref (ad 0)), (1, .int x1)]) hx hb dX12_sendAll_6 rfl hl (by decide) rfl (fun ls hl => ?_)
  exact (q_rX12_sendAll_b7 C hap) σ1 x1 0 hf H locs ls hP hS (lv_sub hl [1, 2, 0] rfl)
theorem c_rX12_sendAll (l : Launch) {dC : Nat → ClassId} {dI : Nat → Nat → Nat} {kA : Nat → ClassId} {ad : Nat → Nat} (hap : jw_ap 32 ad) (σ : RS) (x1 : Int32) (res : RS) (hf : s_rX12_sendAll σ x1 = some res) : jm_u l KW NW (dC, dI) vwCl (jtys kA) (jw_A 32 ad) (r_w kA ad) yX12_sendAll cX12_sendAll 5 (rm_rX12_sendAll) [.ref (ad 0), .int x1] σ res := jm_u_of (by decide) (Nat.le_of_ble_eq_true rfl) (fun p e s m below meth c C hP hS ls hl => p_rX12_sendAll C hap σ x1 hf s.heap [] ls hP hS hl)
