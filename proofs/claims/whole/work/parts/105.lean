theorem dX7_askNode_0 : decode cX7_askNode 0 = .ok (.aload_n 0, 1) := by decide +kernel
theorem dX7_askNode_1 : decode cX7_askNode 1 = .ok (.getfield 39, 3) := by decide +kernel
theorem dX7_askNode_4 : decode cX7_askNode 4 = .ok (.getfield 107, 3) := by decide +kernel
theorem dX7_askNode_7 : decode cX7_askNode 7 = .ok (.aload_n 0, 1) := by decide +kernel
theorem dX7_askNode_8 : decode cX7_askNode 8 = .ok (.iload_n 1, 1) := by decide +kernel
theorem dX7_askNode_9 : decode cX7_askNode 9 = .ok (.invokevirtual 148, 3) := by decide +kernel
theorem dX7_askNode_12 : decode cX7_askNode 12 = .ok (.iload_n 2, 1) := by decide +kernel
theorem dX7_askNode_13 : decode cX7_askNode 13 = .ok (.invokevirtual 152, 3) := by decide +kernel
theorem dX7_askNode_16 : decode cX7_askNode 16 = .ok (.iload_n 1, 1) := by decide +kernel
theorem dX7_askNode_17 : decode cX7_askNode 17 = .ok (.iconst 3, 1) := by decide +kernel
theorem dX7_askNode_18 : decode cX7_askNode 18 = .ok (.imul, 1) := by decide +kernel
theorem dX7_askNode_19 : decode cX7_askNode 19 = .ok (.istore_n 3, 1) := by decide +kernel
theorem dX7_askNode_20 : decode cX7_askNode 20 = .ok (.iload_n 3, 1) := by decide +kernel
theorem dX7_askNode_21 : decode cX7_askNode 21 = .ok (.iload_n 1, 1) := by decide +kernel
theorem dX7_askNode_22 : decode cX7_askNode 22 = .ok (.iconst 3, 1) := by decide +kernel
theorem dX7_askNode_23 : decode cX7_askNode 23 = .ok (.imul, 1) := by decide +kernel
theorem dX7_askNode_24 : decode cX7_askNode 24 = .ok (.iconst 3, 1) := by decide +kernel
theorem dX7_askNode_25 : decode cX7_askNode 25 = .ok (.iadd, 1) := by decide +kernel
theorem dX7_askNode_26 : decode cX7_askNode 26 = .ok (.if_icmp .ge 49, 3) := by decide +kernel
theorem dX7_askNode_29 : decode cX7_askNode 29 = .ok (.aload_n 0, 1) := by decide +kernel
theorem dX7_askNode_30 : decode cX7_askNode 30 = .ok (.getfield 47, 3) := by decide +kernel
theorem dX7_askNode_33 : decode cX7_askNode 33 = .ok (.invokevirtual 79, 3) := by decide +kernel
theorem dX7_askNode_36 : decode cX7_askNode 36 = .ok (.ifCond .eq 4, 3) := by decide +kernel
theorem dX7_askNode_39 : decode cX7_askNode 39 = .ok (.return_, 1) := by decide +kernel
theorem dX7_askNode_40 : decode cX7_askNode 40 = .ok (.aload_n 0, 1) := by decide +kernel
theorem dX7_askNode_41 : decode cX7_askNode 41 = .ok (.getfield 29, 3) := by decide +kernel
theorem dX7_askNode_44 : decode cX7_askNode 44 = .ok (.iload_n 3, 1) := by decide +kernel
theorem dX7_askNode_45 : decode cX7_askNode 45 = .ok (.aload_n 0, 1) := by decide +kernel
theorem dX7_askNode_46 : decode cX7_askNode 46 = .ok (.getfield 39, 3) := by decide +kernel
theorem dX7_askNode_49 : decode cX7_askNode 49 = .ok (.iconst 2, 1) := by decide +kernel
theorem dX7_askNode_50 : decode cX7_askNode 50 = .ok (.iload_n 3, 1) := by decide +kernel
theorem dX7_askNode_51 : decode cX7_askNode 51 = .ok (.iconst 3, 1) := by decide +kernel
theorem dX7_askNode_52 : decode cX7_askNode 52 = .ok (.irem, 1) := by decide +kernel
theorem dX7_askNode_53 : decode cX7_askNode 53 = .ok (.iadd, 1) := by decide +kernel
theorem dX7_askNode_54 : decode cX7_askNode 54 = .ok (.iload_n 1, 1) := by decide +kernel
theorem dX7_askNode_55 : decode cX7_askNode 55 = .ok (.iconst (-1), 1) := by decide +kernel
theorem dX7_askNode_56 : decode cX7_askNode 56 = .ok (.aload_n 0, 1) := by decide +kernel
theorem dX7_askNode_57 : decode cX7_askNode 57 = .ok (.getfield 38, 3) := by decide +kernel
theorem dX7_askNode_60 : decode cX7_askNode 60 = .ok (.getfield 156, 3) := by decide +kernel
theorem dX7_askNode_63 : decode cX7_askNode 63 = .ok (.iload_n 3, 1) := by decide +kernel
theorem dX7_askNode_64 : decode cX7_askNode 64 = .ok (.laload, 1) := by decide +kernel
theorem dX7_askNode_65 : decode cX7_askNode 65 = .ok (.invokevirtual 136, 3) := by decide +kernel
theorem dX7_askNode_68 : decode cX7_askNode 68 = .ok (.lastore, 1) := by decide +kernel
theorem dX7_askNode_69 : decode cX7_askNode 69 = .ok (.iinc 3 1, 3) := by decide +kernel
theorem dX7_askNode_72 : decode cX7_askNode 72 = .ok (.goto (-52), 3) := by decide +kernel
theorem dX7_askNode_75 : decode cX7_askNode 75 = .ok (.aload_n 0, 1) := by decide +kernel
theorem dX7_askNode_76 : decode cX7_askNode 76 = .ok (.getfield 47, 3) := by decide +kernel
theorem dX7_askNode_79 : decode cX7_askNode 79 = .ok (.invokevirtual 79, 3) := by decide +kernel
theorem dX7_askNode_82 : decode cX7_askNode 82 = .ok (.ifCond .eq 4, 3) := by decide +kernel
theorem dX7_askNode_85 : decode cX7_askNode 85 = .ok (.return_, 1) := by decide +kernel
theorem dX7_askNode_86 : decode cX7_askNode 86 = .ok (.aload_n 0, 1) := by decide +kernel
theorem dX7_askNode_87 : decode cX7_askNode 87 = .ok (.getfield 26, 3) := by decide +kernel
theorem dX7_askNode_90 : decode cX7_askNode 90 = .ok (.iload_n 1, 1) := by decide +kernel
theorem dX7_askNode_91 : decode cX7_askNode 91 = .ok (.aload_n 0, 1) := by decide +kernel
theorem dX7_askNode_92 : decode cX7_askNode 92 = .ok (.getfield 39, 3) := by decide +kernel
theorem dX7_askNode_95 : decode cX7_askNode 95 = .ok (.iconst 5, 1) := by decide +kernel
theorem dX7_askNode_96 : decode cX7_askNode 96 = .ok (.iload_n 1, 1) := by decide +kernel
theorem dX7_askNode_97 : decode cX7_askNode 97 = .ok (.iconst (-1), 1) := by decide +kernel
theorem dX7_askNode_98 : decode cX7_askNode 98 = .ok (.lconst 0, 1) := by decide +kernel
theorem dX7_askNode_99 : decode cX7_askNode 99 = .ok (.invokevirtual 136, 3) := by decide +kernel
theorem dX7_askNode_102 : decode cX7_askNode 102 = .ok (.lconst 0, 1) := by decide +kernel
theorem dX7_askNode_103 : decode cX7_askNode 103 = .ok (.lcmp, 1) := by decide +kernel
theorem dX7_askNode_104 : decode cX7_askNode 104 = .ok (.ifCond .eq 7, 3) := by decide +kernel
theorem dX7_askNode_107 : decode cX7_askNode 107 = .ok (.iconst 1, 1) := by decide +kernel
theorem dX7_askNode_108 : decode cX7_askNode 108 = .ok (.goto 4, 3) := by decide +kernel
theorem dX7_askNode_111 : decode cX7_askNode 111 = .ok (.iconst 0, 1) := by decide +kernel
theorem dX7_askNode_112 : decode cX7_askNode 112 = .ok (.bastore, 1) := by decide +kernel
theorem dX7_askNode_113 : decode cX7_askNode 113 = .ok (.return_, 1) := by decide +kernel
theorem dX7_sumParts_0 : decode cX7_sumParts 0 = .ok (.aload_n 0, 1) := by decide +kernel
theorem dX7_sumParts_1 : decode cX7_sumParts 1 = .ok (.getfield 39, 3) := by decide +kernel
theorem dX7_sumParts_4 : decode cX7_sumParts 4 = .ok (.getfield 107, 3) := by decide +kernel
theorem dX7_sumParts_7 : decode cX7_sumParts 7 = .ok (.lconst 0, 1) := by decide +kernel
theorem dX7_sumParts_8 : decode cX7_sumParts 8 = .ok (.iconst 0, 1) := by decide +kernel
theorem dX7_sumParts_9 : decode cX7_sumParts 9 = .ok (.invokevirtual 152, 3) := by decide +kernel
theorem dX7_sumParts_12 : decode cX7_sumParts 12 = .ok (.lconst 0, 1) := by decide +kernel
theorem dX7_sumParts_13 : decode cX7_sumParts 13 = .ok (.lstore_n 1, 1) := by decide +kernel
theorem dX7_sumParts_14 : decode cX7_sumParts 14 = .ok (.iconst 0, 1) := by decide +kernel
theorem dX7_sumParts_15 : decode cX7_sumParts 15 = .ok (.istore_n 3, 1) := by decide +kernel
theorem dX7_sumParts_16 : decode cX7_sumParts 16 = .ok (.iload_n 3, 1) := by decide +kernel
theorem dX7_sumParts_17 : decode cX7_sumParts 17 = .ok (.aload_n 0, 1) := by decide +kernel
theorem dX7_sumParts_18 : decode cX7_sumParts 18 = .ok (.getfield 38, 3) := by decide +kernel
theorem dX7_sumParts_21 : decode cX7_sumParts 21 = .ok (.getfield 123, 3) := by decide +kernel
theorem dX7_sumParts_24 : decode cX7_sumParts 24 = .ok (.if_icmp .ge 35, 3) := by decide +kernel
theorem dX7_sumParts_27 : decode cX7_sumParts 27 = .ok (.lload_n 1, 1) := by decide +kernel
theorem dX7_sumParts_28 : decode cX7_sumParts 28 = .ok (.aload_n 0, 1) := by decide +kernel
theorem dX7_sumParts_29 : decode cX7_sumParts 29 = .ok (.getfield 39, 3) := by decide +kernel
theorem dX7_sumParts_32 : decode cX7_sumParts 32 = .ok (.bipush 6, 2) := by decide +kernel
theorem dX7_sumParts_34 : decode cX7_sumParts 34 = .ok (.iload_n 3, 1) := by decide +kernel
theorem dX7_sumParts_35 : decode cX7_sumParts 35 = .ok (.iconst (-1), 1) := by decide +kernel
theorem dX7_sumParts_36 : decode cX7_sumParts 36 = .ok (.lconst 0, 1) := by decide +kernel
theorem dX7_sumParts_37 : decode cX7_sumParts 37 = .ok (.invokevirtual 136, 3) := by decide +kernel
theorem dX7_sumParts_40 : decode cX7_sumParts 40 = .ok (.ladd, 1) := by decide +kernel
theorem dX7_sumParts_41 : decode cX7_sumParts 41 = .ok (.lstore_n 1, 1) := by decide +kernel
theorem dX7_sumParts_42 : decode cX7_sumParts 42 = .ok (.aload_n 0, 1) := by decide +kernel
theorem dX7_sumParts_43 : decode cX7_sumParts 43 = .ok (.getfield 47, 3) := by decide +kernel
theorem dX7_sumParts_46 : decode cX7_sumParts 46 = .ok (.invokevirtual 79, 3) := by decide +kernel
theorem dX7_sumParts_49 : decode cX7_sumParts 49 = .ok (.ifCond .eq 4, 3) := by decide +kernel
theorem dX7_sumParts_52 : decode cX7_sumParts 52 = .ok (.return_, 1) := by decide +kernel
theorem dX7_sumParts_53 : decode cX7_sumParts 53 = .ok (.iinc 3 1, 3) := by decide +kernel
theorem dX7_sumParts_56 : decode cX7_sumParts 56 = .ok (.goto (-40), 3) := by decide +kernel
theorem dX7_sumParts_59 : decode cX7_sumParts 59 = .ok (.aload_n 0, 1) := by decide +kernel
theorem dX7_sumParts_60 : decode cX7_sumParts 60 = .ok (.getfield 38, 3) := by decide +kernel
theorem dX7_sumParts_63 : decode cX7_sumParts 63 = .ok (.lload_n 1, 1) := by decide +kernel
theorem dX7_sumParts_64 : decode cX7_sumParts 64 = .ok (.putfield 191, 3) := by decide +kernel
theorem dX7_sumParts_67 : decode cX7_sumParts 67 = .ok (.return_, 1) := by decide +kernel
theorem dX3_sendOn_0 : decode cX3_sendOn 0 = .ok (.iconst 0, 1) := by decide +kernel
theorem dX3_sendOn_1 : decode cX3_sendOn 1 = .ok (.istore_n 2, 1) := by decide +kernel
theorem dX3_sendOn_2 : decode cX3_sendOn 2 = .ok (.iload_n 2, 1) := by decide +kernel
theorem dX3_sendOn_3 : decode cX3_sendOn 3 = .ok (.aload_n 0, 1) := by decide +kernel
theorem dX3_sendOn_4 : decode cX3_sendOn 4 = .ok (.getfield 31, 3) := by decide +kernel
theorem dX3_sendOn_7 : decode cX3_sendOn 7 = .ok (.getfield 109, 3) := by decide +kernel
theorem dX3_sendOn_10 : decode cX3_sendOn 10 = .ok (.if_icmp .ge 39, 3) := by decide +kernel
theorem dX3_sendOn_13 : decode cX3_sendOn 13 = .ok (.aload_n 0, 1) := by decide +kernel
theorem dX3_sendOn_14 : decode cX3_sendOn 14 = .ok (.getfield 31, 3) := by decide +kernel
theorem dX3_sendOn_17 : decode cX3_sendOn 17 = .ok (.getfield 111, 3) := by decide +kernel
theorem dX3_sendOn_20 : decode cX3_sendOn 20 = .ok (.iload_n 2, 1) := by decide +kernel
theorem dX3_sendOn_21 : decode cX3_sendOn 21 = .ok (.iaload, 1) := by decide +kernel
theorem dX3_sendOn_22 : decode cX3_sendOn 22 = .ok (.iload_n 1, 1) := by decide +kernel
theorem dX3_sendOn_23 : decode cX3_sendOn 23 = .ok (.if_icmp .ne 9, 3) := by decide +kernel
theorem dX3_sendOn_26 : decode cX3_sendOn 26 = .ok (.aload_n 0, 1) := by decide +kernel
theorem dX3_sendOn_27 : decode cX3_sendOn 27 = .ok (.iload_n 1, 1) := by decide +kernel
theorem dX3_sendOn_28 : decode cX3_sendOn 28 = .ok (.iload_n 2, 1) := by decide +kernel
theorem dX3_sendOn_29 : decode cX3_sendOn 29 = .ok (.invokevirtual 114, 3) := by decide +kernel
theorem dX3_sendOn_32 : decode cX3_sendOn 32 = .ok (.aload_n 0, 1) := by decide +kernel
theorem dX3_sendOn_33 : decode cX3_sendOn 33 = .ok (.getfield 40, 3) := by decide +kernel
theorem dX3_sendOn_36 : decode cX3_sendOn 36 = .ok (.invokevirtual 74, 3) := by decide +kernel
theorem dX3_sendOn_39 : decode cX3_sendOn 39 = .ok (.ifCond .eq 4, 3) := by decide +kernel
theorem dX3_sendOn_42 : decode cX3_sendOn 42 = .ok (.return_, 1) := by decide +kernel
theorem dX3_sendOn_43 : decode cX3_sendOn 43 = .ok (.iinc 2 1, 3) := by decide +kernel
theorem dX3_sendOn_46 : decode cX3_sendOn 46 = .ok (.goto (-44), 3) := by decide +kernel
theorem dX3_sendOn_49 : decode cX3_sendOn 49 = .ok (.return_, 1) := by decide +kernel
theorem dX3_isDone_0 : decode cX3_isDone 0 = .ok (.aload_n 0, 1) := by decide +kernel
theorem dX3_isDone_1 : decode cX3_isDone 1 = .ok (.aload_n 0, 1) := by decide +kernel
theorem dX3_isDone_2 : decode cX3_isDone 2 = .ok (.getfield 64, 3) := by decide +kernel
theorem dX3_isDone_5 : decode cX3_isDone 5 = .ok (.iconst 1, 1) := by decide +kernel
theorem dX3_isDone_6 : decode cX3_isDone 6 = .ok (.iadd, 1) := by decide +kernel
theorem dX3_isDone_7 : decode cX3_isDone 7 = .ok (.bipush 60, 2) := by decide +kernel
theorem dX3_isDone_9 : decode cX3_isDone 9 = .ok (.irem, 1) := by decide +kernel
theorem dX3_isDone_10 : decode cX3_isDone 10 = .ok (.putfield 64, 3) := by decide +kernel
theorem dX3_isDone_13 : decode cX3_isDone 13 = .ok (.aload_n 0, 1) := by decide +kernel
theorem dX3_isDone_14 : decode cX3_isDone 14 = .ok (.dup, 1) := by decide +kernel
theorem dX3_isDone_15 : decode cX3_isDone 15 = .ok (.getfield 68, 3) := by decide +kernel
theorem dX3_isDone_18 : decode cX3_isDone 18 = .ok (.iconst 1, 1) := by decide +kernel
theorem dX3_isDone_19 : decode cX3_isDone 19 = .ok (.isub, 1) := by decide +kernel
theorem dX3_isDone_20 : decode cX3_isDone 20 = .ok (.putfield 68, 3) := by decide +kernel
theorem dX3_isDone_23 : decode cX3_isDone 23 = .ok (.aload_n 0, 1) := by decide +kernel
theorem dX3_isDone_24 : decode cX3_isDone 24 = .ok (.getfield 31, 3) := by decide +kernel
theorem dX3_isDone_27 : decode cX3_isDone 27 = .ok (.getfield 129, 3) := by decide +kernel
theorem dX3_isDone_30 : decode cX3_isDone 30 = .ok (.iload_n 1, 1) := by decide +kernel
theorem dX3_isDone_31 : decode cX3_isDone 31 = .ok (.iaload, 1) := by decide +kernel
theorem dX3_isDone_32 : decode cX3_isDone 32 = .ok (.istore 4, 2) := by decide +kernel
theorem dX3_isDone_34 : decode cX3_isDone 34 = .ok (.aload_n 0, 1) := by decide +kernel
theorem dX3_isDone_35 : decode cX3_isDone 35 = .ok (.getfield 31, 3) := by decide +kernel
theorem dX3_isDone_38 : decode cX3_isDone 38 = .ok (.getfield 132, 3) := by decide +kernel
theorem dX3_isDone_41 : decode cX3_isDone 41 = .ok (.iload 4, 2) := by decide +kernel
theorem dX3_isDone_43 : decode cX3_isDone 43 = .ok (.iconst 3, 1) := by decide +kernel
theorem dX3_isDone_44 : decode cX3_isDone 44 = .ok (.imul, 1) := by decide +kernel
theorem dX3_isDone_45 : decode cX3_isDone 45 = .ok (.aload_n 0, 1) := by decide +kernel
theorem dX3_isDone_46 : decode cX3_isDone 46 = .ok (.getfield 22, 3) := by decide +kernel
theorem dX3_isDone_49 : decode cX3_isDone 49 = .ok (.iconst 0, 1) := by decide +kernel
theorem dX3_isDone_50 : decode cX3_isDone 50 = .ok (.iconst 3, 1) := by decide +kernel
theorem dX3_isDone_51 : decode cX3_isDone 51 = .ok (.invokestatic 135, 3) := by decide +kernel
theorem dX3_isDone_54 : decode cX3_isDone 54 = .ok (.aload_n 0, 1) := by decide +kernel
theorem dX3_isDone_55 : decode cX3_isDone 55 = .ok (.getfield 32, 3) := by decide +kernel
theorem dX3_isDone_58 : decode cX3_isDone 58 = .ok (.getfield 55, 3) := by decide +kernel
theorem dX3_isDone_61 : decode cX3_isDone 61 = .ok (.lload_n 2, 1) := by decide +kernel
theorem dX3_isDone_62 : decode cX3_isDone 62 = .ok (.iconst 1, 1) := by decide +kernel
theorem dX3_isDone_63 : decode cX3_isDone 63 = .ok (.invokevirtual 141, 3) := by decide +kernel
theorem dX3_isDone_66 : decode cX3_isDone 66 = .ok (.aload_n 0, 1) := by decide +kernel
theorem dX3_isDone_67 : decode cX3_isDone 67 = .ok (.iload 4, 2) := by decide +kernel
theorem dX3_isDone_69 : decode cX3_isDone 69 = .ok (.invokevirtual 145, 3) := by decide +kernel
theorem dX3_isDone_72 : decode cX3_isDone 72 = .ok (.aload_n 0, 1) := by decide +kernel
theorem dX3_isDone_73 : decode cX3_isDone 73 = .ok (.getfield 40, 3) := by decide +kernel
theorem dX3_isDone_76 : decode cX3_isDone 76 = .ok (.invokevirtual 74, 3) := by decide +kernel
theorem dX3_isDone_79 : decode cX3_isDone 79 = .ok (.ifCond .ne 24, 3) := by decide +kernel
theorem dX3_isDone_82 : decode cX3_isDone 82 = .ok (.aload_n 0, 1) := by decide +kernel
theorem dX3_isDone_83 : decode cX3_isDone 83 = .ok (.getfield 32, 3) := by decide +kernel
theorem dX3_isDone_86 : decode cX3_isDone 86 = .ok (.iconst 5, 1) := by decide +kernel
theorem dX3_isDone_87 : decode cX3_isDone 87 = .ok (.iload 4, 2) := by decide +kernel
theorem dX3_isDone_89 : decode cX3_isDone 89 = .ok (.iconst (-1), 1) := by decide +kernel
theorem dX3_isDone_90 : decode cX3_isDone 90 = .ok (.lconst 0, 1) := by decide +kernel
theorem dX3_isDone_91 : decode cX3_isDone 91 = .ok (.invokevirtual 118, 3) := by decide +kernel
theorem dX3_isDone_94 : decode cX3_isDone 94 = .ok (.lconst 0, 1) := by decide +kernel
theorem dX3_isDone_95 : decode cX3_isDone 95 = .ok (.lcmp, 1) := by decide +kernel
theorem dX3_isDone_96 : decode cX3_isDone 96 = .ok (.ifCond .eq 7, 3) := by decide +kernel
theorem dX3_isDone_99 : decode cX3_isDone 99 = .ok (.iconst 1, 1) := by decide +kernel
theorem dX3_isDone_100 : decode cX3_isDone 100 = .ok (.goto 4, 3) := by decide +kernel
theorem dX3_isDone_103 : decode cX3_isDone 103 = .ok (.iconst 0, 1) := by decide +kernel
theorem dX3_isDone_104 : decode cX3_isDone 104 = .ok (.istore 5, 2) := by decide +kernel
theorem dX3_isDone_106 : decode cX3_isDone 106 = .ok (.aload_n 0, 1) := by decide +kernel
theorem dX3_isDone_107 : decode cX3_isDone 107 = .ok (.getfield 32, 3) := by decide +kernel
theorem dX3_isDone_110 : decode cX3_isDone 110 = .ok (.getfield 55, 3) := by decide +kernel
theorem dX3_isDone_113 : decode cX3_isDone 113 = .ok (.lconst 0, 1) := by decide +kernel
theorem dX3_isDone_114 : decode cX3_isDone 114 = .ok (.iconst 0, 1) := by decide +kernel
theorem dX3_isDone_115 : decode cX3_isDone 115 = .ok (.invokevirtual 141, 3) := by decide +kernel
theorem dX3_isDone_118 : decode cX3_isDone 118 = .ok (.aload_n 0, 1) := by decide +kernel
theorem dX3_isDone_119 : decode cX3_isDone 119 = .ok (.getfield 40, 3) := by decide +kernel
theorem dX3_isDone_122 : decode cX3_isDone 122 = .ok (.invokevirtual 74, 3) := by decide +kernel
theorem dX3_isDone_125 : decode cX3_isDone 125 = .ok (.ifCond .ne 14, 3) := by decide +kernel
theorem dX3_isDone_128 : decode cX3_isDone 128 = .ok (.iload 5, 2) := by decide +kernel
theorem dX3_isDone_130 : decode cX3_isDone 130 = .ok (.ifCond .ne 9, 3) := by decide +kernel
theorem dX3_isDone_133 : decode cX3_isDone 133 = .ok (.aload_n 0, 1) := by decide +kernel
theorem dX3_isDone_134 : decode cX3_isDone 134 = .ok (.iload 4, 2) := by decide +kernel
theorem dX3_isDone_136 : decode cX3_isDone 136 = .ok (.invokevirtual 105, 3) := by decide +kernel
theorem dX3_isDone_139 : decode cX3_isDone 139 = .ok (.aload_n 0, 1) := by decide +kernel
theorem dX3_isDone_140 : decode cX3_isDone 140 = .ok (.getfield 40, 3) := by decide +kernel
theorem dX3_isDone_143 : decode cX3_isDone 143 = .ok (.invokevirtual 74, 3) := by decide +kernel
theorem dX3_isDone_146 : decode cX3_isDone 146 = .ok (.ifCond .ne 5, 3) := by decide +kernel
theorem dX3_isDone_149 : decode cX3_isDone 149 = .ok (.iconst 1, 1) := by decide +kernel
theorem dX3_isDone_150 : decode cX3_isDone 150 = .ok (.ireturn, 1) := by decide +kernel
theorem dX3_isDone_151 : decode cX3_isDone 151 = .ok (.aload_n 0, 1) := by decide +kernel
theorem dX3_isDone_152 : decode cX3_isDone 152 = .ok (.getfield 22, 3) := by decide +kernel
theorem dX3_isDone_155 : decode cX3_isDone 155 = .ok (.iconst 0, 1) := by decide +kernel
theorem dX3_isDone_156 : decode cX3_isDone 156 = .ok (.aload_n 0, 1) := by decide +kernel
theorem dX3_isDone_157 : decode cX3_isDone 157 = .ok (.getfield 31, 3) := by decide +kernel
theorem dX3_isDone_160 : decode cX3_isDone 160 = .ok (.getfield 132, 3) := by decide +kernel
theorem dX3_isDone_163 : decode cX3_isDone 163 = .ok (.iload 4, 2) := by decide +kernel
theorem dX3_isDone_165 : decode cX3_isDone 165 = .ok (.iconst 3, 1) := by decide +kernel
theorem dX3_isDone_166 : decode cX3_isDone 166 = .ok (.imul, 1) := by decide +kernel
theorem dX3_isDone_167 : decode cX3_isDone 167 = .ok (.iconst 3, 1) := by decide +kernel
theorem dX3_isDone_168 : decode cX3_isDone 168 = .ok (.invokestatic 135, 3) := by decide +kernel
theorem dX3_isDone_171 : decode cX3_isDone 171 = .ok (.iconst 0, 1) := by decide +kernel
theorem dX3_isDone_172 : decode cX3_isDone 172 = .ok (.ireturn, 1) := by decide +kernel
theorem dX7_sendAll_0 : decode cX7_sendAll 0 = .ok (.iload_n 1, 1) := by decide +kernel
theorem dX7_sendAll_1 : decode cX7_sendAll 1 = .ok (.ifCond .eq 13, 3) := by decide +kernel
theorem dX7_sendAll_4 : decode cX7_sendAll 4 = .ok (.aload_n 0, 1) := by decide +kernel
theorem dX7_sendAll_5 : decode cX7_sendAll 5 = .ok (.getfield 38, 3) := by decide +kernel
theorem dX7_sendAll_8 : decode cX7_sendAll 8 = .ok (.getfield 117, 3) := by decide +kernel
theorem dX7_sendAll_11 : decode cX7_sendAll 11 = .ok (.goto 10, 3) := by decide +kernel
theorem dX7_sendAll_14 : decode cX7_sendAll 14 = .ok (.aload_n 0, 1) := by decide +kernel
theorem dX7_sendAll_15 : decode cX7_sendAll 15 = .ok (.getfield 38, 3) := by decide +kernel
theorem dX7_sendAll_18 : decode cX7_sendAll 18 = .ok (.getfield 120, 3) := by decide +kernel
theorem dX7_sendAll_21 : decode cX7_sendAll 21 = .ok (.astore_n 2, 1) := by decide +kernel
theorem dX7_sendAll_22 : decode cX7_sendAll 22 = .ok (.iconst 0, 1) := by decide +kernel
theorem dX7_sendAll_23 : decode cX7_sendAll 23 = .ok (.istore_n 3, 1) := by decide +kernel
theorem dX7_sendAll_24 : decode cX7_sendAll 24 = .ok (.iload_n 3, 1) := by decide +kernel
theorem dX7_sendAll_25 : decode cX7_sendAll 25 = .ok (.aload_n 0, 1) := by decide +kernel
theorem dX7_sendAll_26 : decode cX7_sendAll 26 = .ok (.getfield 38, 3) := by decide +kernel
theorem dX7_sendAll_29 : decode cX7_sendAll 29 = .ok (.getfield 123, 3) := by decide +kernel
theorem dX7_sendAll_32 : decode cX7_sendAll 32 = .ok (.if_icmp .ge 76, 3) := by decide +kernel
theorem dX7_sendAll_35 : decode cX7_sendAll 35 = .ok (.iconst 0, 1) := by decide +kernel
theorem dX7_sendAll_36 : decode cX7_sendAll 36 = .ok (.istore 4, 2) := by decide +kernel
theorem dX7_sendAll_38 : decode cX7_sendAll 38 = .ok (.iload 4, 2) := by decide +kernel
theorem dX7_sendAll_40 : decode cX7_sendAll 40 = .ok (.aload_n 0, 1) := by decide +kernel
theorem dX7_sendAll_41 : decode cX7_sendAll 41 = .ok (.getfield 38, 3) := by decide +kernel
theorem dX7_sendAll_44 : decode cX7_sendAll 44 = .ok (.getfield 126, 3) := by decide +kernel
theorem dX7_sendAll_47 : decode cX7_sendAll 47 = .ok (.if_icmp .ge 55, 3) := by decide +kernel
theorem dX7_sendAll_50 : decode cX7_sendAll 50 = .ok (.aload_n 2, 1) := by decide +kernel
theorem dX7_sendAll_51 : decode cX7_sendAll 51 = .ok (.iload 4, 2) := by decide +kernel
theorem dX7_sendAll_53 : decode cX7_sendAll 53 = .ok (.iaload, 1) := by decide +kernel
theorem dX7_sendAll_54 : decode cX7_sendAll 54 = .ok (.iload_n 3, 1) := by decide +kernel
theorem dX7_sendAll_55 : decode cX7_sendAll 55 = .ok (.if_icmp .ne 30, 3) := by decide +kernel
theorem dX7_sendAll_58 : decode cX7_sendAll 58 = .ok (.aload_n 0, 1) := by decide +kernel
theorem dX7_sendAll_59 : decode cX7_sendAll 59 = .ok (.getfield 38, 3) := by decide +kernel
theorem dX7_sendAll_62 : decode cX7_sendAll 62 = .ok (.getfield 129, 3) := by decide +kernel
theorem dX7_sendAll_65 : decode cX7_sendAll 65 = .ok (.aload_n 0, 1) := by decide +kernel
theorem dX7_sendAll_66 : decode cX7_sendAll 66 = .ok (.getfield 38, 3) := by decide +kernel
theorem dX7_sendAll_69 : decode cX7_sendAll 69 = .ok (.getfield 120, 3) := by decide +kernel
theorem dX7_sendAll_72 : decode cX7_sendAll 72 = .ok (.iload 4, 2) := by decide +kernel
theorem dX7_sendAll_74 : decode cX7_sendAll 74 = .ok (.iaload, 1) := by decide +kernel
theorem dX7_sendAll_75 : decode cX7_sendAll 75 = .ok (.baload, 1) := by decide +kernel
theorem dX7_sendAll_76 : decode cX7_sendAll 76 = .ok (.ifCond .eq 9, 3) := by decide +kernel
theorem dX7_sendAll_79 : decode cX7_sendAll 79 = .ok (.aload_n 0, 1) := by decide +kernel
theorem dX7_sendAll_80 : decode cX7_sendAll 80 = .ok (.iload 4, 2) := by decide +kernel
theorem dX7_sendAll_82 : decode cX7_sendAll 82 = .ok (.invokevirtual 132, 3) := by decide +kernel
theorem dX7_sendAll_85 : decode cX7_sendAll 85 = .ok (.aload_n 0, 1) := by decide +kernel
theorem dX7_sendAll_86 : decode cX7_sendAll 86 = .ok (.getfield 47, 3) := by decide +kernel
theorem dX7_sendAll_89 : decode cX7_sendAll 89 = .ok (.invokevirtual 79, 3) := by decide +kernel
theorem dX7_sendAll_92 : decode cX7_sendAll 92 = .ok (.ifCond .eq 4, 3) := by decide +kernel
theorem dX7_sendAll_95 : decode cX7_sendAll 95 = .ok (.return_, 1) := by decide +kernel
theorem dX7_sendAll_96 : decode cX7_sendAll 96 = .ok (.iinc 4 1, 3) := by decide +kernel
theorem dX7_sendAll_99 : decode cX7_sendAll 99 = .ok (.goto (-61), 3) := by decide +kernel
theorem dX7_sendAll_102 : decode cX7_sendAll 102 = .ok (.iinc 3 1, 3) := by decide +kernel
theorem dX7_sendAll_105 : decode cX7_sendAll 105 = .ok (.goto (-81), 3) := by decide +kernel
theorem dX7_sendAll_108 : decode cX7_sendAll 108 = .ok (.return_, 1) := by decide +kernel
def rm_cX7_askNode : Room := { frames := 44, cells := 0, slots := 0, locals := 1271 }
def G_cX7_askNode_b112 (p : Program) (l : Launch) (e : Env) (s : State) (m : MethodId) (args : Array Value) (below : List Frame) (meth : Method) (c : Code) (dC : Nat → ClassId) (dI : Nat → Nat → Nat) (kA : Nat → ClassId) (ad : Nat → Nat) (res : RS) (F : RS → Int32 → Int32 → Option (RS)) : Prop := ∀ (σ : RS) (s0 : Int32) (s1 : Int32), F σ s0 s1 = some res → ∀ (H : Heap) (locs : List Loc) (ls : Array Slot), va_P (dC, dI) vwCl (c_w kA ad σ) H → va_S (jw_A 57 ad) s.heap H locs → lv_has ls 4 [] → W p l e rm_cX7_askNode s m args below meth c H locs 0 0 (c_Qu below dC dI kA ad args s res) (F0 m 112 ls [.int s0, .int s1, .ref (ad 29)])
def G_cX7_askNode_b75 (p : Program) (l : Launch) (e : Env) (s : State) (m : MethodId) (args : Array Value) (below : List Frame) (meth : Method) (c : Code) (dC : Nat → ClassId) (dI : Nat → Nat → Nat) (kA : Nat → ClassId) (ad : Nat → Nat) (res : RS) (F : RS → Int32 → Option (RS)) : Prop := ∀ (σ : RS) (x1 : Int32), F σ x1 = some res → ∀ (H : Heap) (locs : List Loc) (ls : Array Slot), va_P (dC, dI) vwCl (c_w kA ad σ) H → va_S (jw_A 57 ad) s.heap H locs → lv_has ls 4 [(0, .ref (ad 24)), (1, .int x1)] → W p l e rm_cX7_askNode s m args below meth c H locs 0 0 (c_Qu below dC dI kA ad args s res) (F0 m 75 ls [])
def G_cX7_askNode_b20 (p : Program) (l : Launch) (e : Env) (s : State) (m : MethodId) (args : Array Value) (below : List Frame) (meth : Method) (c : Code) (dC : Nat → ClassId) (dI : Nat → Nat → Nat) (kA : Nat → ClassId) (ad : Nat → Nat) (res : RS) (F : RS → Int32 → Int32 → Option (RS)) : Prop := ∀ (σ : RS) (x1 : Int32) (x3 : Int32), F σ x1 x3 = some res → ∀ (H : Heap) (locs : List Loc) (ls : Array Slot), va_P (dC, dI) vwCl (c_w kA ad σ) H → va_S (jw_A 57 ad) s.heap H locs → lv_has ls 4 [(0, .ref (ad 24)), (1, .int x1), (3, .int x3)] → W p l e rm_cX7_askNode s m args below meth c H locs 0 0 (c_Qu below dC dI kA ad args s res) (F0 m 20 ls [])
def G_cX7_askNode (p : Program) (l : Launch) (e : Env) (s : State) (m : MethodId) (args : Array Value) (below : List Frame) (meth : Method) (c : Code) (dC : Nat → ClassId) (dI : Nat → Nat → Nat) (kA : Nat → ClassId) (ad : Nat → Nat) (res : RS) (F : RS → Int32 → Int32 → Option (RS)) : Prop := ∀ (σ : RS) (x1 : Int32) (x2 : Int32), F σ x1 x2 = some res → ∀ (H : Heap) (locs : List Loc) (ls : Array Slot), va_P (dC, dI) vwCl (c_w kA ad σ) H → va_S (jw_A 57 ad) s.heap H locs → lv_has ls 4 [(0, .ref (ad 24)), (1, .int x1), (2, .int x2)] → W p l e rm_cX7_askNode s m args below meth c H locs 0 0 (c_Qu below dC dI kA ad args s res) (F0 m 0 ls [])
def s_cX7_askNode_b112 (σ : RS) (s0 : Int32) (s1 : Int32) : Option (RS) := kn_st (rs_A σ 13 (upd (rg_A σ 13) s1.toNatClampNeg (vp_nar .boolean s0))) 12 s1 (fun σ1 => some σ1)
set_option maxRecDepth 100000 in
set_option maxHeartbeats 4000000 in
theorem p_cX7_askNode_b112 {p : Program} {l : Launch} {e : Env} {s : State} {m : MethodId} {args : Array Value} {below : List Frame} {meth : Method} {c : Code} {dC : Nat → ClassId} {dI : Nat → Nat → Nat} {kA : Nat → ClassId} {ad : Nat → Nat} (C : jxc cX7_askNode none 4 RX7 p s m args meth c dC dI kA) (hap : jw_ap 57 ad) {res : RS} : G_cX7_askNode_b112 p l e s m args below meth c dC dI kA ad res (s_cX7_askNode_b112) := by
  obtain ⟨hx, hb, hml, hown, hts, hr, hlocks, hK, hN⟩ := id C
  intro σ s0 s1 hf H locs ls hP hS hl
  unfold s_cX7_askNode_b112 at hf
  refine ja_zst hx hb hK (c_D hap σ) hP hS 29 2 rfl rfl rfl c_sA13 hf dX7_askNode_112 (fun σ1 H locs hP hS hf => ?_)
  exact jr_u hx hb hr hlocks hf hP hS dX7_askNode_113
def s_cX7_askNode_b75 (σ : RS) (x1 : Int32) : Option (RS) := kn_i (s_cX2_is σ) (fun v1 σ2 => if v1 = 0 then (kn_l (s_cX0_comesTo σ2 5 x1 (-1) 0) (fun v3 σ4 => if v3 = 0 then (s_cX7_askNode_b112 σ4 0 x1) else (s_cX7_askNode_b112 σ4 1 x1))) else some σ2)
set_option maxRecDepth 100000 in
set_option maxHeartbeats 4000000 in
theorem p_cX7_askNode_b75 {p : Program} {l : Launch} {e : Env} {s : State} {m : MethodId} {args : Array Value} {below : List Frame} {meth : Method} {c : Code} {dC : Nat → ClassId} {dI : Nat → Nat → Nat} {kA : Nat → ClassId} {ad : Nat → Nat} (C : jxc cX7_askNode none 4 RX7 p s m args meth c dC dI kA) (hap : jw_ap 57 ad) {res : RS} : G_cX7_askNode_b75 p l e s m args below meth c dC dI kA ad res (s_cX7_askNode_b75) := by
  obtain ⟨hx, hb, hml, hown, hts, hr, hlocks, hK, hN⟩ := id C
  intro σ x1 hf H locs ls hP hS hl
  unfold s_cX7_askNode_b75 at hf
  refine lv_aload_n hx hb dX7_askNode_75 rfl (lv_at hl 0 rfl) ?_
  refine c_gX7_failure hx hb hts hown hK hP (hts _ kw_334) dX7_askNode_76 ?_
  refine jk_i hf (fun res hres => jv_run hx hb hml hown hts hK hN c_hG c_hNW hl.1 (n := 0) (As := []) (rest := []) (c_cX2_is l hap σ res hres) hP (ci := 2) (q0 := 16) rfl rfl rfl kw_584 kw_635 kw_582 kw_583 kw_56 ⟨rfl, rfl⟩ (by decide +kernel) rfl ⟨Nat.le_of_ble_eq_true rfl, Nat.le_of_ble_eq_true rfl⟩ rfl (Nat.le_of_ble_eq_true rfl) dX7_askNode_79) hS (fun v1 σ2 H locs hP hS hf => ?_)
  refine jb_eq (tgt := 86) hx hb hf dX7_askNode_82 (by decide) (fun hf => ?_) (fun hf => ?_)
  · refine lv_aload_n hx hb dX7_askNode_86 rfl (lv_at hl 0 rfl) ?_
    refine c_gX7_halting hx hb hts hown hK hP (hts _ kw_341) dX7_askNode_87 ?_
    refine lv_iload_n hx hb dX7_askNode_90 rfl (lv_at hl 1 rfl) ?_
    refine lv_aload_n hx hb dX7_askNode_91 rfl (lv_at hl 0 rfl) ?_
    refine c_gX7_actor hx hb hts hown hK hP (hts _ kw_333) dX7_askNode_92 ?_
    refine lv_iconst (v := 5) hx hb dX7_askNode_95 (by decide) ?_
    refine lv_iload_n hx hb dX7_askNode_96 rfl (lv_at hl 1 rfl) ?_
    refine lv_iconst (v := (-1)) hx hb dX7_askNode_97 (by decide) ?_
    refine lv_lconst (v := 0) hx hb dX7_askNode_98 (by decide) ?_
    refine jk_l hf (fun res hres => jv_run hx hb hml hown hts hK hN c_hG c_hNW hl.1 (n := 4) (As := [.int 5, .int x1, .int (-1), .long 0]) (rest := [.int x1, .ref (ad 29)]) (c_cX0_comesTo l hap σ2 5 x1 (-1) 0 res hres) hP (ci := 0) (q0 := 23) rfl rfl rfl kw_555 kw_634 kw_553 kw_554 kw_61 ⟨rfl, rfl⟩ (by decide +kernel) rfl ⟨Nat.le_of_ble_eq_true rfl, Nat.le_of_ble_eq_true rfl⟩ rfl (Nat.le_of_ble_eq_true rfl) dX7_askNode_99) hS (fun v3 σ4 H locs hP hS hf => ?_)
    refine lv_lconst (v := 0) hx hb dX7_askNode_102 (by decide) ?_
    refine jl_eq (tgt := 111) hx hb hf dX7_askNode_103 dX7_askNode_104 (by decide) (fun hf => ?_) (fun hf => ?_)
    · refine lv_iconst (v := 0) hx hb dX7_askNode_111 (by decide) ?_
      exact (p_cX7_askNode_b112 C hap) σ4 0 x1 hf H locs ls hP hS (lv_sub hl [] rfl)
    · refine lv_iconst (v := 1) hx hb dX7_askNode_107 (by decide) ?_
      refine lv_goto (tgt := 112) hx hb dX7_askNode_108 (by decide) ?_
      exact (p_cX7_askNode_b112 C hap) σ4 1 x1 hf H locs ls hP hS (lv_sub hl [] rfl)
  · exact jr_u hx hb hr hlocks hf hP hS dX7_askNode_85
def s_cX7_askNode_b20 (k20 : RS → Int32 → Int32 → Option (RS)) (σ : RS) (x1 : Int32) (x3 : Int32) : Option (RS) := if ((x1 * 3) + 3) ≤ x3 then (s_cX7_askNode_b75 σ x1) else (kn_i (s_cX2_is σ) (fun v1 σ2 => if v1 = 0 then (kn_ld (rg_B σ2 1) 36 x3 (fun v3 => kn_l (s_cX0_comesTo σ2 (2 + (x3 - x3 / 3 * 3)) x1 (-1) v3) (fun v4 σ5 => kn_st (rs_B σ5 5 (vp_updL (rg_B σ5 5) x3.toNatClampNeg v4)) 36 x3 (fun σ6 => kn_v (x3 + 1) (fun v7 => k20 σ6 x1 v7))))) else some σ2))
set_option maxRecDepth 100000 in
set_option maxHeartbeats 4000000 in
theorem p_cX7_askNode_b20 {p : Program} {l : Launch} {e : Env} {s : State} {m : MethodId} {args : Array Value} {below : List Frame} {meth : Method} {c : Code} {dC : Nat → ClassId} {dI : Nat → Nat → Nat} {kA : Nat → ClassId} {ad : Nat → Nat} (C : jxc cX7_askNode none 4 RX7 p s m args meth c dC dI kA) (hap : jw_ap 57 ad) {res : RS} {k20 : RS → Int32 → Int32 → Option (RS)} (hk20 : G_cX7_askNode_b20 p l e s m args below meth c dC dI kA ad res k20) : G_cX7_askNode_b20 p l e s m args below meth c dC dI kA ad res (s_cX7_askNode_b20 k20) := by
  obtain ⟨hx, hb, hml, hown, hts, hr, hlocks, hK, hN⟩ := id C
  intro σ x1 x3 hf H locs ls hP hS hl
  unfold s_cX7_askNode_b20 at hf
  refine lv_iload_n hx hb dX7_askNode_20 rfl (lv_at hl 2 rfl) ?_
  refine lv_iload_n hx hb dX7_askNode_21 rfl (lv_at hl 1 rfl) ?_
  refine lv_iconst (v := 3) hx hb dX7_askNode_22 (by decide) ?_
  refine lv_imul hx hb dX7_askNode_23 ?_
  refine lv_iconst (v := 3) hx hb dX7_askNode_24 (by decide) ?_
  refine lv_iadd hx hb dX7_askNode_25 ?_
  refine jc_ge (tgt := 75) hx hb hf dX7_askNode_26 (by decide) (fun hf => ?_) (fun hf => ?_)
  · exact (p_cX7_askNode_b75 C hap) σ x1 hf H locs ls hP hS (lv_sub hl [0, 1] rfl)
  · refine lv_aload_n hx hb dX7_askNode_29 rfl (lv_at hl 0 rfl) ?_
    refine c_gX7_failure hx hb hts hown hK hP (hts _ kw_334) dX7_askNode_30 ?_
    refine jk_i hf (fun res hres => jv_run hx hb hml hown hts hK hN c_hG c_hNW hl.1 (n := 0) (As := []) (rest := []) (c_cX2_is l hap σ res hres) hP (ci := 2) (q0 := 16) rfl rfl rfl kw_584 kw_635 kw_582 kw_583 kw_56 ⟨rfl, rfl⟩ (by decide +kernel) rfl ⟨Nat.le_of_ble_eq_true rfl, Nat.le_of_ble_eq_true rfl⟩ rfl (Nat.le_of_ble_eq_true rfl) dX7_askNode_33) hS (fun v1 σ2 H locs hP hS hf => ?_)
    refine jb_eq (tgt := 40) hx hb hf dX7_askNode_36 (by decide) (fun hf => ?_) (fun hf => ?_)
    · refine lv_aload_n hx hb dX7_askNode_40 rfl (lv_at hl 0 rfl) ?_
      refine c_gX7_newStates hx hb hts hown hK hP (hts _ kw_342) dX7_askNode_41 ?_
      refine lv_iload_n hx hb dX7_askNode_44 rfl (lv_at hl 2 rfl) ?_
      refine lv_aload_n hx hb dX7_askNode_45 rfl (lv_at hl 0 rfl) ?_
      refine c_gX7_actor hx hb hts hown hK hP (hts _ kw_333) dX7_askNode_46 ?_
      refine lv_iconst (v := 2) hx hb dX7_askNode_49 (by decide) ?_
      refine lv_iload_n hx hb dX7_askNode_50 rfl (lv_at hl 2 rfl) ?_
      refine lv_iconst (v := 3) hx hb dX7_askNode_51 (by decide) ?_
      refine lv_irem hx hb dX7_askNode_52 (by decide) ?_
      refine lv_iadd hx hb dX7_askNode_53 ?_
      refine lv_iload_n hx hb dX7_askNode_54 rfl (lv_at hl 1 rfl) ?_
      refine lv_iconst (v := (-1)) hx hb dX7_askNode_55 (by decide) ?_
      refine lv_aload_n hx hb dX7_askNode_56 rfl (lv_at hl 0 rfl) ?_
      refine c_gX7_web hx hb hts hown hK hP (hts _ kw_332) dX7_askNode_57 ?_
      refine c_gX10_states hx hb hts hown hK hP (hts _ kw_119) dX7_askNode_60 ?_
      refine lv_iload_n hx hb dX7_askNode_63 rfl (lv_at hl 2 rfl) ?_
      refine ja_lld hx hb hK hP 8 1 rfl rfl hf dX7_askNode_64 (fun v3 hf => ?_)
      refine jk_l hf (fun res hres => jv_run hx hb hml hown hts hK hN c_hG c_hNW hl.1 (n := 4) (As := [.int (2 + (x3 - x3 / 3 * 3)), .int x1, .int (-1), .long v3]) (rest := [.int x3, .ref (ad 30)]) (c_cX0_comesTo l hap σ2 (2 + (x3 - x3 / 3 * 3)) x1 (-1) v3 res hres) hP (ci := 0) (q0 := 23) rfl rfl rfl kw_555 kw_634 kw_553 kw_554 kw_61 ⟨rfl, rfl⟩ (by decide +kernel) rfl ⟨Nat.le_of_ble_eq_true rfl, Nat.le_of_ble_eq_true rfl⟩ rfl (Nat.le_of_ble_eq_true rfl) dX7_askNode_65) hS (fun v4 σ5 H locs hP hS hf => ?_)
      refine ja_lst hx hb hK (c_D hap σ5) hP hS 30 1 rfl rfl c_sB5 hf dX7_askNode_68 (fun σ6 H locs hP hS hf => ?_)
      obtain ⟨v7, e_v7, hf⟩ := kn_v_e hf
      refine lv_iinc (v := v7) (lv' := [(3, .int v7), (0, .ref (ad 24)), (1, .int x1)]) hx hb dX7_askNode_69 hl (k := 2) rfl e_v7 (by decide) rfl (fun ls hl => ?_)
      refine lv_goto (tgt := 20) hx hb dX7_askNode_72 (by decide) ?_
      exact hk20 σ6 x1 v7 hf H locs ls hP hS (lv_sub hl [1, 2, 0] rfl)
    · exact jr_u hx hb hr hlocks hf hP hS dX7_askNode_39
def f_cX7_askNode_b20 : RS → Int32 → Int32 → Option (RS) := kn_fix (fun _ _ _ => none) (s_cX7_askNode_b20) FU
theorem q_cX7_askNode_b20 {p : Program} {l : Launch} {e : Env} {s : State} {m : MethodId} {args : Array Value} {below : List Frame} {meth : Method} {c : Code} {dC : Nat → ClassId} {dI : Nat → Nat → Nat} {kA : Nat → ClassId} {ad : Nat → Nat} (C : jxc cX7_askNode none 4 RX7 p s m args meth c dC dI kA) (hap : jw_ap 57 ad) {res : RS} : G_cX7_askNode_b20 p l e s m args below meth c dC dI kA ad res (f_cX7_askNode_b20) := kn_fix_ind (G := fun F => G_cX7_askNode_b20 p l e s m args below meth c dC dI kA ad res F) (fun _ _ _ hf => by cases hf) (fun k20 hk20 => p_cX7_askNode_b20 C hap hk20) FU
def s_cX7_askNode (σ : RS) (x1 : Int32) (x2 : Int32) : Option (RS) := kn_l (s_cX7_foldFor σ x1) (fun v1 σ2 => kn_u (s_cX1_setFolded σ2 v1 x2) (fun σ4 => kn_v (x1 * 3) (fun v5 => f_cX7_askNode_b20 σ4 x1 v5)))
set_option maxRecDepth 100000 in
set_option maxHeartbeats 4000000 in
theorem p_cX7_askNode {p : Program} {l : Launch} {e : Env} {s : State} {m : MethodId} {args : Array Value} {below : List Frame} {meth : Method} {c : Code} {dC : Nat → ClassId} {dI : Nat → Nat → Nat} {kA : Nat → ClassId} {ad : Nat → Nat} (C : jxc cX7_askNode none 4 RX7 p s m args meth c dC dI kA) (hap : jw_ap 57 ad) {res : RS} : G_cX7_askNode p l e s m args below meth c dC dI kA ad res (s_cX7_askNode) := by
  obtain ⟨hx, hb, hml, hown, hts, hr, hlocks, hK, hN⟩ := id C
  intro σ x1 x2 hf H locs ls hP hS hl
  unfold s_cX7_askNode at hf
  refine lv_aload_n hx hb dX7_askNode_0 rfl (lv_at hl 0 rfl) ?_
  refine c_gX7_actor hx hb hts hown hK hP (hts _ kw_333) dX7_askNode_1 ?_
  refine c_gX0_asker hx hb hts hown hK hP (hts _ kw_313) dX7_askNode_4 ?_
  refine lv_aload_n hx hb dX7_askNode_7 rfl (lv_at hl 0 rfl) ?_
  refine lv_iload_n hx hb dX7_askNode_8 rfl (lv_at hl 1 rfl) ?_
  refine jk_l hf (fun res hres => jv_run hx hb hml hown hts hK hN c_hG c_hNW hl.1 (n := 1) (As := [.int x1]) (rest := [.ref (ad 22)]) (c_cX7_foldFor l hap σ x1 res hres) hP (ci := 7) (q0 := 24) rfl rfl rfl kw_651 kw_648 kw_650 kw_18 kw_62 ⟨rfl, rfl⟩ (by decide +kernel) rfl ⟨Nat.le_of_ble_eq_true rfl, Nat.le_of_ble_eq_true rfl⟩ rfl (Nat.le_of_ble_eq_true rfl) dX7_askNode_9) hS (fun v1 σ2 H locs hP hS hf => ?_)
  refine lv_iload_n hx hb dX7_askNode_12 rfl (lv_at hl 2 rfl) ?_
  refine jk_u hf (fun res hres => jv_run hx hb hml hown hts hK hN c_hG c_hNW hl.1 (n := 2) (As := [.long v1, .int x2]) (rest := []) (c_cX1_setFolded l hap σ2 v1 x2 res hres) hP (ci := 1) (q0 := 22) rfl rfl rfl kw_539 kw_663 kw_537 kw_538 kw_60 ⟨rfl, rfl⟩ (by decide +kernel) rfl ⟨Nat.le_of_ble_eq_true rfl, Nat.le_of_ble_eq_true rfl⟩ rfl (Nat.le_of_ble_eq_true rfl) dX7_askNode_13) hS (fun σ4 H locs hP hS hf => ?_)
  refine lv_iload_n hx hb dX7_askNode_16 rfl (lv_at hl 1 rfl) ?_
  refine lv_iconst (v := 3) hx hb dX7_askNode_17 (by decide) ?_
  refine lv_imul hx hb dX7_askNode_18 ?_
  refine jn_i hf (fun v5 hf => ?_)
  refine lv_istore_n (lv' := [(3, .int v5), (0, .ref (ad 24)), (1, .int x1), (2, .int x2)]) hx hb dX7_askNode_19 rfl hl (by decide) rfl (fun ls hl => ?_)
  exact (q_cX7_askNode_b20 C hap) σ4 x1 v5 hf H locs ls hP hS (lv_sub hl [1, 2, 0] rfl)
theorem c_cX7_askNode (l : Launch) {dC : Nat → ClassId} {dI : Nat → Nat → Nat} {kA : Nat → ClassId} {ad : Nat → Nat} (hap : jw_ap 57 ad) (σ : RS) (x1 : Int32) (x2 : Int32) (res : RS) (hf : s_cX7_askNode σ x1 x2 = some res) : jm_u l KW NW (dC, dI) vwCl (jtys kA) (jw_A 57 ad) (c_w kA ad) yX7_askNode cX7_askNode 4 (rm_cX7_askNode) [.ref (ad 24), .int x1, .int x2] σ res := jm_u_of (by decide) (Nat.le_of_ble_eq_true rfl) (fun p e s m below meth c C hP hS ls hl => p_cX7_askNode C hap σ x1 x2 hf s.heap [] ls hP hS hl)

def rm_cX7_sumParts : Room := { frames := 44, cells := 0, slots := 0, locals := 1271 }
def G_cX7_sumParts_b59 (p : Program) (l : Launch) (e : Env) (s : State) (m : MethodId) (args : Array Value) (below : List Frame) (meth : Method) (c : Code) (dC : Nat → ClassId) (dI : Nat → Nat → Nat) (kA : Nat → ClassId) (ad : Nat → Nat) (res : RS) (F : RS → Int64 → Option (RS)) : Prop := ∀ (σ : RS) (x1 : Int64), F σ x1 = some res → ∀ (H : Heap) (locs : List Loc) (ls : Array Slot), va_P (dC, dI) vwCl (c_w kA ad σ) H → va_S (jw_A 57 ad) s.heap H locs → lv_has ls 4 [(0, .ref (ad 24)), (1, .long x1)] → W p l e rm_cX7_sumParts s m args below meth c H locs 0 0 (c_Qu below dC dI kA ad args s res) (F0 m 59 ls [])
def G_cX7_sumParts_b16 (p : Program) (l : Launch) (e : Env) (s : State) (m : MethodId) (args : Array Value) (below : List Frame) (meth : Method) (c : Code) (dC : Nat → ClassId) (dI : Nat → Nat → Nat) (kA : Nat → ClassId) (ad : Nat → Nat) (res : RS) (F : RS → Int64 → Int32 → Option (RS)) : Prop := ∀ (σ : RS) (x1 : Int64) (x3 : Int32), F σ x1 x3 = some res → ∀ (H : Heap) (locs : List Loc) (ls : Array Slot), va_P (dC, dI) vwCl (c_w kA ad σ) H → va_S (jw_A 57 ad) s.heap H locs → lv_has ls 4 [(0, .ref (ad 24)), (1, .long x1), (3, .int x3)] → W p l e rm_cX7_sumParts s m args below meth c H locs 0 0 (c_Qu below dC dI kA ad args s res) (F0 m 16 ls [])
def G_cX7_sumParts (p : Program) (l : Launch) (e : Env) (s : State) (m : MethodId) (args : Array Value) (below : List Frame) (meth : Method) (c : Code) (dC : Nat → ClassId) (dI : Nat → Nat → Nat) (kA : Nat → ClassId) (ad : Nat → Nat) (res : RS) (F : RS → Option (RS)) : Prop := ∀ (σ : RS), F σ = some res → ∀ (H : Heap) (locs : List Loc) (ls : Array Slot), va_P (dC, dI) vwCl (c_w kA ad σ) H → va_S (jw_A 57 ad) s.heap H locs → lv_has ls 4 [(0, .ref (ad 24))] → W p l e rm_cX7_sumParts s m args below meth c H locs 0 0 (c_Qu below dC dI kA ad args s res) (F0 m 0 ls [])
def s_cX7_sumParts_b59 (σ : RS) (x1 : Int64) : Option (RS) := kn_v (rs_L σ 0 x1) (fun σ1 => some σ1)
set_option maxRecDepth 100000 in
set_option maxHeartbeats 4000000 in
theorem p_cX7_sumParts_b59 {p : Program} {l : Launch} {e : Env} {s : State} {m : MethodId} {args : Array Value} {below : List Frame} {meth : Method} {c : Code} {dC : Nat → ClassId} {dI : Nat → Nat → Nat} {kA : Nat → ClassId} {ad : Nat → Nat} (C : jxc cX7_sumParts none 4 RX7 p s m args meth c dC dI kA) (hap : jw_ap 57 ad) {res : RS} : G_cX7_sumParts_b59 p l e s m args below meth c dC dI kA ad res (s_cX7_sumParts_b59) := by
  obtain ⟨hx, hb, hml, hown, hts, hr, hlocks, hK, hN⟩ := id C
  intro σ x1 hf H locs ls hP hS hl
  unfold s_cX7_sumParts_b59 at hf
  refine lv_aload_n hx hb dX7_sumParts_59 rfl (lv_at hl 0 rfl) ?_
  refine c_gX7_web hx hb hts hown hK hP (hts _ kw_332) dX7_sumParts_60 ?_
  refine lv_lload_n hx hb dX7_sumParts_63 rfl (lv_at hl 1 rfl) ?_
  refine c_pX10_sum hx hb hts hown hK hap hP hS hf (hts _ kw_151) dX7_sumParts_64 (fun σ1 H locs hP hS hf => ?_)
  exact jr_u hx hb hr hlocks hf hP hS dX7_sumParts_67
def s_cX7_sumParts_b16 (k16 : RS → Int64 → Int32 → Option (RS)) (σ : RS) (x1 : Int64) (x3 : Int32) : Option (RS) := if (rg_I σ 2) ≤ x3 then (s_cX7_sumParts_b59 σ x1) else (kn_l (s_cX0_comesTo σ 6 x3 (-1) 0) (fun v1 σ2 => kn_v (x1 + v1) (fun v3 => kn_i (s_cX2_is σ2) (fun v4 σ5 => if v4 = 0 then (kn_v (x3 + 1) (fun v6 => k16 σ5 v3 v6)) else some σ5))))
set_option maxRecDepth 100000 in
set_option maxHeartbeats 4000000 in
theorem p_cX7_sumParts_b16 {p : Program} {l : Launch} {e : Env} {s : State} {m : MethodId} {args : Array Value} {below : List Frame} {meth : Method} {c : Code} {dC : Nat → ClassId} {dI : Nat → Nat → Nat} {kA : Nat → ClassId} {ad : Nat → Nat} (C : jxc cX7_sumParts none 4 RX7 p s m args meth c dC dI kA) (hap : jw_ap 57 ad) {res : RS} {k16 : RS → Int64 → Int32 → Option (RS)} (hk16 : G_cX7_sumParts_b16 p l e s m args below meth c dC dI kA ad res k16) : G_cX7_sumParts_b16 p l e s m args below meth c dC dI kA ad res (s_cX7_sumParts_b16 k16) := by
  obtain ⟨hx, hb, hml, hown, hts, hr, hlocks, hK, hN⟩ := id C
  intro σ x1 x3 hf H locs ls hP hS hl
  unfold s_cX7_sumParts_b16 at hf
  refine lv_iload_n hx hb dX7_sumParts_16 rfl (lv_at hl 2 rfl) ?_
  refine lv_aload_n hx hb dX7_sumParts_17 rfl (lv_at hl 0 rfl) ?_
  refine c_gX7_web hx hb hts hown hK hP (hts _ kw_332) dX7_sumParts_18 ?_
  refine c_gX10_nodes hx hb hts hown hK hP (hts _ kw_137) dX7_sumParts_21 ?_
  refine jc_ge (tgt := 59) hx hb hf dX7_sumParts_24 (by decide) (fun hf => ?_) (fun hf => ?_)
  · exact (p_cX7_sumParts_b59 C hap) σ x1 hf H locs ls hP hS (lv_sub hl [0, 1] rfl)
  · refine lv_lload_n hx hb dX7_sumParts_27 rfl (lv_at hl 1 rfl) ?_
    refine lv_aload_n hx hb dX7_sumParts_28 rfl (lv_at hl 0 rfl) ?_
    refine c_gX7_actor hx hb hts hown hK hP (hts _ kw_333) dX7_sumParts_29 ?_
    refine lv_bipush (v := 6) hx hb dX7_sumParts_32 (by decide) ?_
    refine lv_iload_n hx hb dX7_sumParts_34 rfl (lv_at hl 2 rfl) ?_
    refine lv_iconst (v := (-1)) hx hb dX7_sumParts_35 (by decide) ?_
    refine lv_lconst (v := 0) hx hb dX7_sumParts_36 (by decide) ?_
    refine jk_l hf (fun res hres => jv_run hx hb hml hown hts hK hN c_hG c_hNW hl.1 (n := 4) (As := [.int 6, .int x3, .int (-1), .long 0]) (rest := [.long x1]) (c_cX0_comesTo l hap σ 6 x3 (-1) 0 res hres) hP (ci := 0) (q0 := 23) rfl rfl rfl kw_555 kw_634 kw_553 kw_554 kw_61 ⟨rfl, rfl⟩ (by decide +kernel) rfl ⟨Nat.le_of_ble_eq_true rfl, Nat.le_of_ble_eq_true rfl⟩ rfl (Nat.le_of_ble_eq_true rfl) dX7_sumParts_37) hS (fun v1 σ2 H locs hP hS hf => ?_)
    refine lv_ladd hx hb dX7_sumParts_40 ?_
    refine jn_l hf (fun v3 hf => ?_)
    refine lv_lstore_n (lv' := [(1, .long v3), (0, .ref (ad 24)), (3, .int x3)]) hx hb dX7_sumParts_41 rfl hl (by decide) rfl (fun ls hl => ?_)
    refine lv_aload_n hx hb dX7_sumParts_42 rfl (lv_at hl 1 rfl) ?_
    refine c_gX7_failure hx hb hts hown hK hP (hts _ kw_334) dX7_sumParts_43 ?_
    refine jk_i hf (fun res hres => jv_run hx hb hml hown hts hK hN c_hG c_hNW hl.1 (n := 0) (As := []) (rest := []) (c_cX2_is l hap σ2 res hres) hP (ci := 2) (q0 := 16) rfl rfl rfl kw_584 kw_635 kw_582 kw_583 kw_56 ⟨rfl, rfl⟩ (by decide +kernel) rfl ⟨Nat.le_of_ble_eq_true rfl, Nat.le_of_ble_eq_true rfl⟩ rfl (Nat.le_of_ble_eq_true rfl) dX7_sumParts_46) hS (fun v4 σ5 H locs hP hS hf => ?_)
    refine jb_eq (tgt := 53) hx hb hf dX7_sumParts_49 (by decide) (fun hf => ?_) (fun hf => ?_)
    · obtain ⟨v6, e_v6, hf⟩ := kn_v_e hf
      refine lv_iinc (v := v6) (lv' := [(3, .int v6), (1, .long v3), (0, .ref (ad 24))]) hx hb dX7_sumParts_53 hl (k := 2) rfl e_v6 (by decide) rfl (fun ls hl => ?_)
      refine lv_goto (tgt := 16) hx hb dX7_sumParts_56 (by decide) ?_
      exact hk16 σ5 v3 v6 hf H locs ls hP hS (lv_sub hl [2, 1, 0] rfl)
    · exact jr_u hx hb hr hlocks hf hP hS dX7_sumParts_52
def f_cX7_sumParts_b16 : RS → Int64 → Int32 → Option (RS) := kn_fix (fun _ _ _ => none) (s_cX7_sumParts_b16) FU
theorem q_cX7_sumParts_b16 {p : Program} {l : Launch} {e : Env} {s : State} {m : MethodId} {args : Array Value} {below : List Frame} {meth : Method} {c : Code} {dC : Nat → ClassId} {dI : Nat → Nat → Nat} {kA : Nat → ClassId} {ad : Nat → Nat} (C : jxc cX7_sumParts none 4 RX7 p s m args meth c dC dI kA) (hap : jw_ap 57 ad) {res : RS} : G_cX7_sumParts_b16 p l e s m args below meth c dC dI kA ad res (f_cX7_sumParts_b16) := kn_fix_ind (G := fun F => G_cX7_sumParts_b16 p l e s m args below meth c dC dI kA ad res F) (fun _ _ _ hf => by cases hf) (fun k16 hk16 => p_cX7_sumParts_b16 C hap hk16) FU
def s_cX7_sumParts (σ : RS) : Option (RS) := kn_u (s_cX1_setFolded σ 0 0) (fun σ2 => f_cX7_sumParts_b16 σ2 0 0)
set_option maxRecDepth 100000 in
set_option maxHeartbeats 4000000 in
theorem p_cX7_sumParts {p : Program} {l : Launch} {e : Env} {s : State} {m : MethodId} {args : Array Value} {below : List Frame} {meth : Method} {c : Code} {dC : Nat → ClassId} {dI : Nat → Nat → Nat} {kA : Nat → ClassId} {ad : Nat → Nat} (C : jxc cX7_sumParts none 4 RX7 p s m args meth c dC dI kA) (hap : jw_ap 57 ad) {res : RS} : G_cX7_sumParts p l e s m args below meth c dC dI kA ad res (s_cX7_sumParts) := by
  obtain ⟨hx, hb, hml, hown, hts, hr, hlocks, hK, hN⟩ := id C
  intro σ hf H locs ls hP hS hl
  unfold s_cX7_sumParts at hf
  refine lv_aload_n hx hb dX7_sumParts_0 rfl (lv_at hl 0 rfl) ?_
  refine c_gX7_actor hx hb hts hown hK hP (hts _ kw_333) dX7_sumParts_1 ?_
  refine c_gX0_asker hx hb hts hown hK hP (hts _ kw_313) dX7_sumParts_4 ?_
  refine lv_lconst (v := 0) hx hb dX7_sumParts_7 (by decide) ?_
  refine lv_iconst (v := 0) hx hb dX7_sumParts_8 (by decide) ?_
  refine jk_u hf (fun res hres => jv_run hx hb hml hown hts hK hN c_hG c_hNW hl.1 (n := 2) (As := [.long 0, .int 0]) (rest := []) (c_cX1_setFolded l hap σ 0 0 res hres) hP (ci := 1) (q0 := 22) rfl rfl rfl kw_539 kw_663 kw_537 kw_538 kw_60 ⟨rfl, rfl⟩ (by decide +kernel) rfl ⟨Nat.le_of_ble_eq_true rfl, Nat.le_of_ble_eq_true rfl⟩ rfl (Nat.le_of_ble_eq_true rfl) dX7_sumParts_9) hS (fun σ2 H locs hP hS hf => ?_)
  refine lv_lconst (v := 0) hx hb dX7_sumParts_12 (by decide) ?_
  refine lv_lstore_n (lv' := [(1, .long 0), (0, .ref (ad 24))]) hx hb dX7_sumParts_13 rfl hl (by decide) rfl (fun ls hl => ?_)
  refine lv_iconst (v := 0) hx hb dX7_sumParts_14 (by decide) ?_
  refine lv_istore_n (lv' := [(3, .int 0), (1, .long 0), (0, .ref (ad 24))]) hx hb dX7_sumParts_15 rfl hl (by decide) rfl (fun ls hl => ?_)
  exact (q_cX7_sumParts_b16 C hap) σ2 0 0 hf H locs ls hP hS (lv_sub hl [2, 1, 0] rfl)
theorem c_cX7_sumParts (l : Launch) {dC : Nat → ClassId} {dI : Nat → Nat → Nat} {kA : Nat → ClassId} {ad : Nat → Nat} (hap : jw_ap 57 ad) (σ : RS) (res : RS) (hf : s_cX7_sumParts σ = some res) : jm_u l KW NW (dC, dI) vwCl (jtys kA) (jw_A 57 ad) (c_w kA ad) yX7_sumParts cX7_sumParts 4 (rm_cX7_sumParts) [.ref (ad 24)] σ res := jm_u_of (by decide) (Nat.le_of_ble_eq_true rfl) (fun p e s m below meth c C hP hS ls hl => p_cX7_sumParts C hap σ hf s.heap [] ls hP hS hl)

def rm_cX3_sendOn : Room := { frames := 45, cells := 0, slots := 0, locals := 1296 }
def G_cX3_sendOn_b32 (p : Program) (l : Launch) (e : Env) (s : State) (m : MethodId) (args : Array Value) (below : List Frame) (meth : Method) (c : Code) (dC : Nat → ClassId) (dI : Nat → Nat → Nat) (kA : Nat → ClassId) (ad : Nat → Nat) (res : RS) (F : RS → Int32 → Int32 → Option (RS)) : Prop := ∀ (σ : RS) (x1 : Int32) (x2 : Int32), F σ x1 x2 = some res → ∀ (H : Heap) (locs : List Loc) (ls : Array Slot), va_P (dC, dI) vwCl (c_w kA ad σ) H → va_S (jw_A 57 ad) s.heap H locs → lv_has ls 3 [(0, .ref (ad 31)), (1, .int x1), (2, .int x2)] → W p l e rm_cX3_sendOn s m args below meth c H locs 0 0 (c_Qu below dC dI kA ad args s res) (F0 m 32 ls [])
def G_cX3_sendOn_b2 (p : Program) (l : Launch) (e : Env) (s : State) (m : MethodId) (args : Array Value) (below : List Frame) (meth : Method) (c : Code) (dC : Nat → ClassId) (dI : Nat → Nat → Nat) (kA : Nat → ClassId) (ad : Nat → Nat) (res : RS) (F : RS → Int32 → Int32 → Option (RS)) : Prop := ∀ (σ : RS) (x1 : Int32) (x2 : Int32), F σ x1 x2 = some res → ∀ (H : Heap) (locs : List Loc) (ls : Array Slot), va_P (dC, dI) vwCl (c_w kA ad σ) H → va_S (jw_A 57 ad) s.heap H locs → lv_has ls 3 [(0, .ref (ad 31)), (1, .int x1), (2, .int x2)] → W p l e rm_cX3_sendOn s m args below meth c H locs 0 0 (c_Qu below dC dI kA ad args s res) (F0 m 2 ls [])
def G_cX3_sendOn (p : Program) (l : Launch) (e : Env) (s : State) (m : MethodId) (args : Array Value) (below : List Frame) (meth : Method) (c : Code) (dC : Nat → ClassId) (dI : Nat → Nat → Nat) (kA : Nat → ClassId) (ad : Nat → Nat) (res : RS) (F : RS → Int32 → Option (RS)) : Prop := ∀ (σ : RS) (x1 : Int32), F σ x1 = some res → ∀ (H : Heap) (locs : List Loc) (ls : Array Slot), va_P (dC, dI) vwCl (c_w kA ad σ) H → va_S (jw_A 57 ad) s.heap H locs → lv_has ls 3 [(0, .ref (ad 31)), (1, .int x1)] → W p l e rm_cX3_sendOn s m args below meth c H locs 0 0 (c_Qu below dC dI kA ad args s res) (F0 m 0 ls [])
def s_cX3_sendOn_b32 (k2 : RS → Int32 → Int32 → Option (RS)) (σ : RS) (x1 : Int32) (x2 : Int32) : Option (RS) := kn_i (s_cX2_is σ) (fun v1 σ2 => if v1 = 0 then (kn_v (x2 + 1) (fun v3 => k2 σ2 x1 v3)) else some σ2)
set_option maxRecDepth 100000 in
set_option maxHeartbeats 4000000 in
theorem p_cX3_sendOn_b32 {p : Program} {l : Launch} {e : Env} {s : State} {m : MethodId} {args : Array Value} {below : List Frame} {meth : Method} {c : Code} {dC : Nat → ClassId} {dI : Nat → Nat → Nat} {kA : Nat → ClassId} {ad : Nat → Nat} (C : jxc cX3_sendOn none 3 RX3 p s m args meth c dC dI kA) (hap : jw_ap 57 ad) {res : RS} {k2 : RS → Int32 → Int32 → Option (RS)} (hk2 : G_cX3_sendOn_b2 p l e s m args below meth c dC dI kA ad res k2) : G_cX3_sendOn_b32 p l e s m args below meth c dC dI kA ad res (s_cX3_sendOn_b32 k2) := by
  obtain ⟨hx, hb, hml, hown, hts, hr, hlocks, hK, hN⟩ := id C
  intro σ x1 x2 hf H locs ls hP hS hl
  unfold s_cX3_sendOn_b32 at hf
  refine lv_aload_n hx hb dX3_sendOn_32 rfl (lv_at hl 0 rfl) ?_
  refine c_gX3_failure hx hb hts hown hK hP (hts _ kw_377) dX3_sendOn_33 ?_
  refine jk_i hf (fun res hres => jv_run hx hb hml hown hts hK hN c_hG c_hNW hl.1 (n := 0) (As := []) (rest := []) (c_cX2_is l hap σ res hres) hP (ci := 2) (q0 := 16) rfl rfl rfl kw_584 kw_581 kw_582 kw_583 kw_56 ⟨rfl, rfl⟩ (by decide +kernel) rfl ⟨Nat.le_of_ble_eq_true rfl, Nat.le_of_ble_eq_true rfl⟩ rfl (Nat.le_of_ble_eq_true rfl) dX3_sendOn_36) hS (fun v1 σ2 H locs hP hS hf => ?_)
  refine jb_eq (tgt := 43) hx hb hf dX3_sendOn_39 (by decide) (fun hf => ?_) (fun hf => ?_)
  · obtain ⟨v3, e_v3, hf⟩ := kn_v_e hf
    refine lv_iinc (v := v3) (lv' := [(2, .int v3), (0, .ref (ad 31)), (1, .int x1)]) hx hb dX3_sendOn_43 hl (k := 2) rfl e_v3 (by decide) rfl (fun ls hl => ?_)
    refine lv_goto (tgt := 2) hx hb dX3_sendOn_46 (by decide) ?_
    exact hk2 σ2 x1 v3 hf H locs ls hP hS (lv_sub hl [1, 2, 0] rfl)
  · exact jr_u hx hb hr hlocks hf hP hS dX3_sendOn_42
def s_cX3_sendOn_b2 (k2 : RS → Int32 → Int32 → Option (RS)) (σ : RS) (x1 : Int32) (x2 : Int32) : Option (RS) := if (rg_I σ 3) ≤ x2 then some σ else (kn_ld (rg_A σ 6) 40 x2 (fun v1 => if v1 = x1 then (kn_u (s_cX3_sendAlong σ x1 x2) (fun σ3 => s_cX3_sendOn_b32 k2 σ3 x1 x2)) else (s_cX3_sendOn_b32 k2 σ x1 x2)))
set_option maxRecDepth 100000 in
set_option maxHeartbeats 4000000 in
theorem p_cX3_sendOn_b2 {p : Program} {l : Launch} {e : Env} {s : State} {m : MethodId} {args : Array Value} {below : List Frame} {meth : Method} {c : Code} {dC : Nat → ClassId} {dI : Nat → Nat → Nat} {kA : Nat → ClassId} {ad : Nat → Nat} (C : jxc cX3_sendOn none 3 RX3 p s m args meth c dC dI kA) (hap : jw_ap 57 ad) {res : RS} {k2 : RS → Int32 → Int32 → Option (RS)} (hk2 : G_cX3_sendOn_b2 p l e s m args below meth c dC dI kA ad res k2) : G_cX3_sendOn_b2 p l e s m args below meth c dC dI kA ad res (s_cX3_sendOn_b2 k2) := by
  obtain ⟨hx, hb, hml, hown, hts, hr, hlocks, hK, hN⟩ := id C
  intro σ x1 x2 hf H locs ls hP hS hl
  unfold s_cX3_sendOn_b2 at hf
  refine lv_iload_n hx hb dX3_sendOn_2 rfl (lv_at hl 2 rfl) ?_
  refine lv_aload_n hx hb dX3_sendOn_3 rfl (lv_at hl 0 rfl) ?_
  refine c_gX3_web hx hb hts hown hK hP (hts _ kw_375) dX3_sendOn_4 ?_
  refine c_gX10_arcs hx hb hts hown hK hP (hts _ kw_140) dX3_sendOn_7 ?_
  refine jc_ge (tgt := 49) hx hb hf dX3_sendOn_10 (by decide) (fun hf => ?_) (fun hf => ?_)
  · exact jr_u hx hb hr hlocks hf hP hS dX3_sendOn_49
  · refine lv_aload_n hx hb dX3_sendOn_13 rfl (lv_at hl 0 rfl) ?_
    refine c_gX3_web hx hb hts hown hK hP (hts _ kw_375) dX3_sendOn_14 ?_
    refine c_gX10_from hx hb hts hown hK hP (hts _ kw_128) dX3_sendOn_17 ?_
    refine lv_iload_n hx hb dX3_sendOn_20 rfl (lv_at hl 2 rfl) ?_
    refine ja_ild hx hb hK hP 11 0 rfl rfl hf dX3_sendOn_21 (fun v1 hf => ?_)
    refine lv_iload_n hx hb dX3_sendOn_22 rfl (lv_at hl 1 rfl) ?_
    refine jc_ne (tgt := 32) hx hb hf dX3_sendOn_23 (by decide) (fun hf => ?_) (fun hf => ?_)
    · exact (p_cX3_sendOn_b32 C hap hk2) σ x1 x2 hf H locs ls hP hS (lv_sub hl [0, 1, 2] rfl)
    · refine lv_aload_n hx hb dX3_sendOn_26 rfl (lv_at hl 0 rfl) ?_
      refine lv_iload_n hx hb dX3_sendOn_27 rfl (lv_at hl 1 rfl) ?_
      refine lv_iload_n hx hb dX3_sendOn_28 rfl (lv_at hl 2 rfl) ?_
      refine jk_u hf (fun res hres => jv_run hx hb hml hown hts hK hN c_hG c_hNW hl.1 (n := 2) (As := [.int x1, .int x2]) (rest := []) (c_cX3_sendAlong l hap σ x1 x2 res hres) hP (ci := 3) (q0 := 31) rfl rfl rfl kw_551 kw_548 kw_550 kw_3 kw_63 ⟨rfl, rfl⟩ (by decide +kernel) rfl ⟨Nat.le_of_ble_eq_true rfl, Nat.le_of_ble_eq_true rfl⟩ rfl (Nat.le_of_ble_eq_true rfl) dX3_sendOn_29) hS (fun σ3 H locs hP hS hf => ?_)
      exact (p_cX3_sendOn_b32 C hap hk2) σ3 x1 x2 hf H locs ls hP hS (lv_sub hl [0, 1, 2] rfl)
def f_cX3_sendOn_b2 : RS → Int32 → Int32 → Option (RS) := kn_fix (fun _ _ _ => none) (s_cX3_sendOn_b2) FU
theorem q_cX3_sendOn_b2 {p : Program} {l : Launch} {e : Env} {s : State} {m : MethodId} {args : Array Value} {below : List Frame} {meth : Method} {c : Code} {dC : Nat → ClassId} {dI : Nat → Nat → Nat} {kA : Nat → ClassId} {ad : Nat → Nat} (C : jxc cX3_sendOn none 3 RX3 p s m args meth c dC dI kA) (hap : jw_ap 57 ad) {res : RS} : G_cX3_sendOn_b2 p l e s m args below meth c dC dI kA ad res (f_cX3_sendOn_b2) := kn_fix_ind (G := fun F => G_cX3_sendOn_b2 p l e s m args below meth c dC dI kA ad res F) (fun _ _ _ hf => by cases hf) (fun k2 hk2 => p_cX3_sendOn_b2 C hap hk2) FU
def s_cX3_sendOn (σ : RS) (x1 : Int32) : Option (RS) := f_cX3_sendOn_b2 σ x1 0
set_option maxRecDepth 100000 in
set_option maxHeartbeats 4000000 in
theorem p_cX3_sendOn {p : Program} {l : Launch} {e : Env} {s : State} {m : MethodId} {args : Array Value} {below : List Frame} {meth : Method} {c : Code} {dC : Nat → ClassId} {dI : Nat → Nat → Nat} {kA : Nat → ClassId} {ad : Nat → Nat} (C : jxc cX3_sendOn none 3 RX3 p s m args meth c dC dI kA) (hap : jw_ap 57 ad) {res : RS} : G_cX3_sendOn p l e s m args below meth c dC dI kA ad res (s_cX3_sendOn) := by
  obtain ⟨hx, hb, hml, hown, hts, hr, hlocks, hK, hN⟩ := id C
  intro σ x1 hf H locs ls hP hS hl
  unfold s_cX3_sendOn at hf
  refine lv_iconst (v := 0) hx hb dX3_sendOn_0 (by decide) ?_
  refine lv_istore_n (lv' := [(2, .int 0), (0, .ref (ad 31)), (1, .int x1)]) hx hb dX3_sendOn_1 rfl hl (by decide) rfl (fun ls hl => ?_)
  exact (q_cX3_sendOn_b2 C hap) σ x1 0 hf H locs ls hP hS (lv_sub hl [1, 2, 0] rfl)
theorem c_cX3_sendOn (l : Launch) {dC : Nat → ClassId} {dI : Nat → Nat → Nat} {kA : Nat → ClassId} {ad : Nat → Nat} (hap : jw_ap 57 ad) (σ : RS) (x1 : Int32) (res : RS) (hf : s_cX3_sendOn σ x1 = some res) : jm_u l KW NW (dC, dI) vwCl (jtys kA) (jw_A 57 ad) (c_w kA ad) yX3_sendOn cX3_sendOn 3 (rm_cX3_sendOn) [.ref (ad 31), .int x1] σ res := jm_u_of (by decide) (Nat.le_of_ble_eq_true rfl) (fun p e s m below meth c C hP hS ls hl => p_cX3_sendOn C hap σ x1 hf s.heap [] ls hP hS hl)

def rm_cX3_isDone : Room := { frames := 46, cells := 0, slots := 0, locals := 1318 }
def G_cX3_isDone_b139 (p : Program) (l : Launch) (e : Env) (s : State) (m : MethodId) (args : Array Value) (below : List Frame) (meth : Method) (c : Code) (dC : Nat → ClassId) (dI : Nat → Nat → Nat) (kA : Nat → ClassId) (ad : Nat → Nat) (res : Int32 × RS) (F : RS → Int32 → Option (Int32 × RS)) : Prop := ∀ (σ : RS) (x4 : Int32), F σ x4 = some res → ∀ (H : Heap) (locs : List Loc) (ls : Array Slot), va_P (dC, dI) vwCl (c_w kA ad σ) H → va_S (jw_A 57 ad) s.heap H locs → lv_has ls 6 [(0, .ref (ad 31)), (4, .int x4)] → W p l e rm_cX3_isDone s m args below meth c H locs 0 0 (c_Qi below dC dI kA ad args s res) (F0 m 139 ls [])
def G_cX3_isDone_b104 (p : Program) (l : Launch) (e : Env) (s : State) (m : MethodId) (args : Array Value) (below : List Frame) (meth : Method) (c : Code) (dC : Nat → ClassId) (dI : Nat → Nat → Nat) (kA : Nat → ClassId) (ad : Nat → Nat) (res : Int32 × RS) (F : RS → Int32 → Int32 → Option (Int32 × RS)) : Prop := ∀ (σ : RS) (x4 : Int32) (s0 : Int32), F σ x4 s0 = some res → ∀ (H : Heap) (locs : List Loc) (ls : Array Slot), va_P (dC, dI) vwCl (c_w kA ad σ) H → va_S (jw_A 57 ad) s.heap H locs → lv_has ls 6 [(0, .ref (ad 31)), (4, .int x4)] → W p l e rm_cX3_isDone s m args below meth c H locs 0 0 (c_Qi below dC dI kA ad args s res) (F0 m 104 ls [.int s0])
def G_cX3_isDone_b103 (p : Program) (l : Launch) (e : Env) (s : State) (m : MethodId) (args : Array Value) (below : List Frame) (meth : Method) (c : Code) (dC : Nat → ClassId) (dI : Nat → Nat → Nat) (kA : Nat → ClassId) (ad : Nat → Nat) (res : Int32 × RS) (F : RS → Int32 → Option (Int32 × RS)) : Prop := ∀ (σ : RS) (x4 : Int32), F σ x4 = some res → ∀ (H : Heap) (locs : List Loc) (ls : Array Slot), va_P (dC, dI) vwCl (c_w kA ad σ) H → va_S (jw_A 57 ad) s.heap H locs → lv_has ls 6 [(0, .ref (ad 31)), (4, .int x4)] → W p l e rm_cX3_isDone s m args below meth c H locs 0 0 (c_Qi below dC dI kA ad args s res) (F0 m 103 ls [])
def G_cX3_isDone (p : Program) (l : Launch) (e : Env) (s : State) (m : MethodId) (args : Array Value) (below : List Frame) (meth : Method) (c : Code) (dC : Nat → ClassId) (dI : Nat → Nat → Nat) (kA : Nat → ClassId) (ad : Nat → Nat) (res : Int32 × RS) (F : RS → Int32 → Int64 → Option (Int32 × RS)) : Prop := ∀ (σ : RS) (x1 : Int32) (x2 : Int64), F σ x1 x2 = some res → ∀ (H : Heap) (locs : List Loc) (ls : Array Slot), va_P (dC, dI) vwCl (c_w kA ad σ) H → va_S (jw_A 57 ad) s.heap H locs → lv_has ls 6 [(0, .ref (ad 31)), (1, .int x1), (2, .long x2)] → W p l e rm_cX3_isDone s m args below meth c H locs 0 0 (c_Qi below dC dI kA ad args s res) (F0 m 0 ls [])
def s_cX3_isDone_b139 (σ : RS) (x4 : Int32) : Option (Int32 × RS) := kn_i (s_cX2_is σ) (fun v1 σ2 => if v1 = 0 then (some (1, σ2)) else (kn_cp 3 36 (0 : Int32) (x4 * 3) (3 : Int32) (rs_B σ2 1 (va_cpy (rg_B σ2 8) (rg_B σ2 1) (0 : Int32).toNatClampNeg (x4 * 3).toNatClampNeg (3 : Int32).toNatClampNeg)) (fun σ3 => some (0, σ3))))
set_option maxRecDepth 100000 in
set_option maxHeartbeats 4000000 in
theorem p_cX3_isDone_b139 {p : Program} {l : Launch} {e : Env} {s : State} {m : MethodId} {args : Array Value} {below : List Frame} {meth : Method} {c : Code} {dC : Nat → ClassId} {dI : Nat → Nat → Nat} {kA : Nat → ClassId} {ad : Nat → Nat} (C : jxc cX3_isDone (some .boolean) 6 RX3 p s m args meth c dC dI kA) (hap : jw_ap 57 ad) {res : Int32 × RS} : G_cX3_isDone_b139 p l e s m args below meth c dC dI kA ad res (s_cX3_isDone_b139) := by
  obtain ⟨hx, hb, hml, hown, hts, hr, hlocks, hK, hN⟩ := id C
  intro σ x4 hf H locs ls hP hS hl
  unfold s_cX3_isDone_b139 at hf
  refine lv_aload_n hx hb dX3_isDone_139 rfl (lv_at hl 0 rfl) ?_
  refine c_gX3_failure hx hb hts hown hK hP (hts _ kw_377) dX3_isDone_140 ?_
  refine jk_i hf (fun res hres => jv_run hx hb hml hown hts hK hN c_hG c_hNW hl.1 (n := 0) (As := []) (rest := []) (c_cX2_is l hap σ res hres) hP (ci := 2) (q0 := 16) rfl rfl rfl kw_584 kw_581 kw_582 kw_583 kw_56 ⟨rfl, rfl⟩ (by decide +kernel) rfl ⟨Nat.le_of_ble_eq_true rfl, Nat.le_of_ble_eq_true rfl⟩ rfl (Nat.le_of_ble_eq_true rfl) dX3_isDone_143) hS (fun v1 σ2 H locs hP hS hf => ?_)
  refine jb_ne (tgt := 151) hx hb hf dX3_isDone_146 (by decide) (fun hf => ?_) (fun hf => ?_)
  · refine lv_aload_n hx hb dX3_isDone_151 rfl (lv_at hl 0 rfl) ?_
    refine c_gX3_oldStates hx hb hts hown hK hP (hts _ kw_383) dX3_isDone_152 ?_
    refine lv_iconst (v := 0) hx hb dX3_isDone_155 (by decide) ?_
    refine lv_aload_n hx hb dX3_isDone_156 rfl (lv_at hl 0 rfl) ?_
    refine c_gX3_web hx hb hts hown hK hP (hts _ kw_375) dX3_isDone_157 ?_
    refine c_gX10_states hx hb hts hown hK hP (hts _ kw_118) dX3_isDone_160 ?_
    refine lv_iload hx hb dX3_isDone_163 (lv_at hl 1 rfl) ?_
    refine lv_iconst (v := 3) hx hb dX3_isDone_165 (by decide) ?_
    refine lv_imul hx hb dX3_isDone_166 ?_
    refine lv_iconst (v := 3) hx hb dX3_isDone_167 (by decide) ?_
    refine ja_cpl hx hb (hml.trans hl.1.symm) hown (hts _ kw_590) (hts _ kw_531) (hts _ kw_530) (hts _ kw_65) hK (c_D hap σ2) hP hS 35 8 1 rfl rfl rfl c_sB1 hf (Nat.le_of_ble_eq_true rfl) (Nat.le_of_ble_eq_true rfl) dX3_isDone_168 (fun σ3 H locs hP hS hf => ?_)
    refine lv_iconst (v := 0) hx hb dX3_isDone_171 (by decide) ?_
    exact jr_i hx hb hr hlocks hf (by decide) hP hS dX3_isDone_172
  · refine lv_iconst (v := 1) hx hb dX3_isDone_149 (by decide) ?_
    exact jr_i hx hb hr hlocks hf (by decide) hP hS dX3_isDone_150
def s_cX3_isDone_b104 (σ : RS) (x4 : Int32) (s0 : Int32) : Option (Int32 × RS) := kn_u (s_cX1_setFolded σ 0 0) (fun σ2 => kn_i (s_cX2_is σ2) (fun v3 σ4 => if v3 = 0 then (if s0 = 0 then (kn_u (s_cX3_sendOn σ4 x4) (fun σ6 => s_cX3_isDone_b139 σ6 x4)) else (s_cX3_isDone_b139 σ4 x4)) else (s_cX3_isDone_b139 σ4 x4)))
set_option maxRecDepth 100000 in
set_option maxHeartbeats 4000000 in
theorem p_cX3_isDone_b104 {p : Program} {l : Launch} {e : Env} {s : State} {m : MethodId} {args : Array Value} {below : List Frame} {meth : Method} {c : Code} {dC : Nat → ClassId} {dI : Nat → Nat → Nat} {kA : Nat → ClassId} {ad : Nat → Nat} (C : jxc cX3_isDone (some .boolean) 6 RX3 p s m args meth c dC dI kA) (hap : jw_ap 57 ad) {res : Int32 × RS} : G_cX3_isDone_b104 p l e s m args below meth c dC dI kA ad res (s_cX3_isDone_b104) := by
  obtain ⟨hx, hb, hml, hown, hts, hr, hlocks, hK, hN⟩ := id C
  intro σ x4 s0 hf H locs ls hP hS hl
  unfold s_cX3_isDone_b104 at hf
  refine lv_istore (lv' := [(5, .int s0), (0, .ref (ad 31)), (4, .int x4)]) hx hb dX3_isDone_104 hl (by decide) rfl (fun ls hl => ?_)
  refine lv_aload_n hx hb dX3_isDone_106 rfl (lv_at hl 1 rfl) ?_
  refine c_gX3_actor hx hb hts hown hK hP (hts _ kw_376) dX3_isDone_107 ?_
  refine c_gX0_asker hx hb hts hown hK hP (hts _ kw_312) dX3_isDone_110 ?_
  refine lv_lconst (v := 0) hx hb dX3_isDone_113 (by decide) ?_
  refine lv_iconst (v := 0) hx hb dX3_isDone_114 (by decide) ?_
  refine jk_u hf (fun res hres => jv_run hx hb hml hown hts hK hN c_hG c_hNW hl.1 (n := 2) (As := [.long 0, .int 0]) (rest := []) (c_cX1_setFolded l hap σ 0 0 res hres) hP (ci := 1) (q0 := 22) rfl rfl rfl kw_539 kw_591 kw_537 kw_538 kw_60 ⟨rfl, rfl⟩ (by decide +kernel) rfl ⟨Nat.le_of_ble_eq_true rfl, Nat.le_of_ble_eq_true rfl⟩ rfl (Nat.le_of_ble_eq_true rfl) dX3_isDone_115) hS (fun σ2 H locs hP hS hf => ?_)
  refine lv_aload_n hx hb dX3_isDone_118 rfl (lv_at hl 1 rfl) ?_
  refine c_gX3_failure hx hb hts hown hK hP (hts _ kw_377) dX3_isDone_119 ?_
  refine jk_i hf (fun res hres => jv_run hx hb hml hown hts hK hN c_hG c_hNW hl.1 (n := 0) (As := []) (rest := []) (c_cX2_is l hap σ2 res hres) hP (ci := 2) (q0 := 16) rfl rfl rfl kw_584 kw_581 kw_582 kw_583 kw_56 ⟨rfl, rfl⟩ (by decide +kernel) rfl ⟨Nat.le_of_ble_eq_true rfl, Nat.le_of_ble_eq_true rfl⟩ rfl (Nat.le_of_ble_eq_true rfl) dX3_isDone_122) hS (fun v3 σ4 H locs hP hS hf => ?_)
  refine jb_ne (tgt := 139) hx hb hf dX3_isDone_125 (by decide) (fun hf => ?_) (fun hf => ?_)
  · exact (p_cX3_isDone_b139 C hap) σ4 x4 hf H locs ls hP hS (lv_sub hl [1, 2] rfl)
  · refine lv_iload hx hb dX3_isDone_128 (lv_at hl 0 rfl) ?_
    refine jb_ne (tgt := 139) hx hb hf dX3_isDone_130 (by decide) (fun hf => ?_) (fun hf => ?_)
    · exact (p_cX3_isDone_b139 C hap) σ4 x4 hf H locs ls hP hS (lv_sub hl [1, 2] rfl)
    · refine lv_aload_n hx hb dX3_isDone_133 rfl (lv_at hl 1 rfl) ?_
      refine lv_iload hx hb dX3_isDone_134 (lv_at hl 2 rfl) ?_
      refine jk_u hf (fun res hres => jv_run hx hb hml hown hts hK hN c_hG c_hNW hl.1 (n := 1) (As := [.int x4]) (rest := []) (c_cX3_sendOn l hap σ4 x4 res hres) hP (ci := 3) (q0 := 31) rfl rfl rfl kw_547 kw_544 kw_546 kw_2 kw_63 ⟨rfl, rfl⟩ (by decide +kernel) rfl ⟨Nat.le_of_ble_eq_true rfl, Nat.le_of_ble_eq_true rfl⟩ rfl (Nat.le_of_ble_eq_true rfl) dX3_isDone_136) hS (fun σ6 H locs hP hS hf => ?_)
      exact (p_cX3_isDone_b139 C hap) σ6 x4 hf H locs ls hP hS (lv_sub hl [1, 2] rfl)
def s_cX3_isDone_b103 (σ : RS) (x4 : Int32) : Option (Int32 × RS) := s_cX3_isDone_b104 σ x4 0
set_option maxRecDepth 100000 in
set_option maxHeartbeats 4000000 in
theorem p_cX3_isDone_b103 {p : Program} {l : Launch} {e : Env} {s : State} {m : MethodId} {args : Array Value} {below : List Frame} {meth : Method} {c : Code} {dC : Nat → ClassId} {dI : Nat → Nat → Nat} {kA : Nat → ClassId} {ad : Nat → Nat} (C : jxc cX3_isDone (some .boolean) 6 RX3 p s m args meth c dC dI kA) (hap : jw_ap 57 ad) {res : Int32 × RS} : G_cX3_isDone_b103 p l e s m args below meth c dC dI kA ad res (s_cX3_isDone_b103) := by
  obtain ⟨hx, hb, hml, hown, hts, hr, hlocks, hK, hN⟩ := id C
  intro σ x4 hf H locs ls hP hS hl
  unfold s_cX3_isDone_b103 at hf
  refine lv_iconst (v := 0) hx hb dX3_isDone_103 (by decide) ?_
  exact (p_cX3_isDone_b104 C hap) σ x4 0 hf H locs ls hP hS (lv_sub hl [0, 1] rfl)
def s_cX3_isDone (σ : RS) (x1 : Int32) (x2 : Int64) : Option (Int32 × RS) := kn_v (rs_I σ 19 (((rg_I σ 19) + 1) - ((rg_I σ 19) + 1) / 60 * 60)) (fun σ1 => kn_v (rs_I σ1 20 ((rg_I σ1 20) - 1)) (fun σ2 => kn_ld (rg_A σ2 7) 40 x1 (fun v3 => kn_cp 36 3 (v3 * 3) (0 : Int32) (3 : Int32) (rs_B σ2 8 (va_cpy (rg_B σ2 1) (rg_B σ2 8) (v3 * 3).toNatClampNeg (0 : Int32).toNatClampNeg (3 : Int32).toNatClampNeg)) (fun σ4 => kn_u (s_cX1_setFolded σ4 x2 1) (fun σ6 => kn_u (s_cX3_takeStates σ6 v3) (fun σ8 => kn_i (s_cX2_is σ8) (fun v9 σ10 => if v9 = 0 then (kn_l (s_cX0_comesTo σ10 5 v3 (-1) 0) (fun v11 σ12 => if v11 = 0 then (s_cX3_isDone_b103 σ12 v3) else (s_cX3_isDone_b104 σ12 v3 1))) else (s_cX3_isDone_b103 σ10 v3))))))))
set_option maxRecDepth 100000 in
set_option maxHeartbeats 4000000 in
theorem p_cX3_isDone {p : Program} {l : Launch} {e : Env} {s : State} {m : MethodId} {args : Array Value} {below : List Frame} {meth : Method} {c : Code} {dC : Nat → ClassId} {dI : Nat → Nat → Nat} {kA : Nat → ClassId} {ad : Nat → Nat} (C : jxc cX3_isDone (some .boolean) 6 RX3 p s m args meth c dC dI kA) (hap : jw_ap 57 ad) {res : Int32 × RS} : G_cX3_isDone p l e s m args below meth c dC dI kA ad res (s_cX3_isDone) := by
  obtain ⟨hx, hb, hml, hown, hts, hr, hlocks, hK, hN⟩ := id C
  intro σ x1 x2 hf H locs ls hP hS hl
  unfold s_cX3_isDone at hf
  refine lv_aload_n hx hb dX3_isDone_0 rfl (lv_at hl 0 rfl) ?_
  refine lv_aload_n hx hb dX3_isDone_1 rfl (lv_at hl 0 rfl) ?_
  refine c_gX3_first hx hb hts hown hK hP (hts _ kw_384) dX3_isDone_2 ?_
  refine lv_iconst (v := 1) hx hb dX3_isDone_5 (by decide) ?_
  refine lv_iadd hx hb dX3_isDone_6 ?_
  refine lv_bipush (v := 60) hx hb dX3_isDone_7 (by decide) ?_
  refine lv_irem hx hb dX3_isDone_9 (by decide) ?_
  refine c_pX3_first hx hb hts hown hK hap hP hS hf (hts _ kw_384) dX3_isDone_10 (fun σ1 H locs hP hS hf => ?_)
  refine lv_aload_n hx hb dX3_isDone_13 rfl (lv_at hl 0 rfl) ?_
  refine lv_dup hx hb dX3_isDone_14 rfl ?_
  refine c_gX3_size hx hb hts hown hK hP (hts _ kw_385) dX3_isDone_15 ?_
  refine lv_iconst (v := 1) hx hb dX3_isDone_18 (by decide) ?_
  refine lv_isub hx hb dX3_isDone_19 ?_
  refine c_pX3_size hx hb hts hown hK hap hP hS hf (hts _ kw_385) dX3_isDone_20 (fun σ2 H locs hP hS hf => ?_)
  refine lv_aload_n hx hb dX3_isDone_23 rfl (lv_at hl 0 rfl) ?_
  refine c_gX3_web hx hb hts hown hK hP (hts _ kw_375) dX3_isDone_24 ?_
  refine c_gX10_to hx hb hts hown hK hP (hts _ kw_132) dX3_isDone_27 ?_
  refine lv_iload_n hx hb dX3_isDone_30 rfl (lv_at hl 1 rfl) ?_
  refine ja_ild hx hb hK hP 12 0 rfl rfl hf dX3_isDone_31 (fun v3 hf => ?_)
  refine lv_istore (lv' := [(4, .int v3), (0, .ref (ad 31)), (1, .int x1), (2, .long x2)]) hx hb dX3_isDone_32 hl (by decide) rfl (fun ls hl => ?_)
  refine lv_aload_n hx hb dX3_isDone_34 rfl (lv_at hl 1 rfl) ?_
  refine c_gX3_web hx hb hts hown hK hP (hts _ kw_375) dX3_isDone_35 ?_
  refine c_gX10_states hx hb hts hown hK hP (hts _ kw_118) dX3_isDone_38 ?_
  refine lv_iload hx hb dX3_isDone_41 (lv_at hl 0 rfl) ?_
  refine lv_iconst (v := 3) hx hb dX3_isDone_43 (by decide) ?_
  refine lv_imul hx hb dX3_isDone_44 ?_
  refine lv_aload_n hx hb dX3_isDone_45 rfl (lv_at hl 1 rfl) ?_
  refine c_gX3_oldStates hx hb hts hown hK hP (hts _ kw_383) dX3_isDone_46 ?_
  refine lv_iconst (v := 0) hx hb dX3_isDone_49 (by decide) ?_
  refine lv_iconst (v := 3) hx hb dX3_isDone_50 (by decide) ?_
  refine ja_cpl hx hb (hml.trans hl.1.symm) hown (hts _ kw_590) (hts _ kw_531) (hts _ kw_530) (hts _ kw_65) hK (c_D hap σ2) hP hS 8 35 1 rfl rfl rfl c_sB8 hf (Nat.le_of_ble_eq_true rfl) (Nat.le_of_ble_eq_true rfl) dX3_isDone_51 (fun σ4 H locs hP hS hf => ?_)
  refine lv_aload_n hx hb dX3_isDone_54 rfl (lv_at hl 1 rfl) ?_
  refine c_gX3_actor hx hb hts hown hK hP (hts _ kw_376) dX3_isDone_55 ?_
  refine c_gX0_asker hx hb hts hown hK hP (hts _ kw_312) dX3_isDone_58 ?_
  refine lv_lload_n hx hb dX3_isDone_61 rfl (lv_at hl 3 rfl) ?_
  refine lv_iconst (v := 1) hx hb dX3_isDone_62 (by decide) ?_
  refine jk_u hf (fun res hres => jv_run hx hb hml hown hts hK hN c_hG c_hNW hl.1 (n := 2) (As := [.long x2, .int 1]) (rest := []) (c_cX1_setFolded l hap σ4 x2 1 res hres) hP (ci := 1) (q0 := 22) rfl rfl rfl kw_539 kw_591 kw_537 kw_538 kw_60 ⟨rfl, rfl⟩ (by decide +kernel) rfl ⟨Nat.le_of_ble_eq_true rfl, Nat.le_of_ble_eq_true rfl⟩ rfl (Nat.le_of_ble_eq_true rfl) dX3_isDone_63) hS (fun σ6 H locs hP hS hf => ?_)
  refine lv_aload_n hx hb dX3_isDone_66 rfl (lv_at hl 1 rfl) ?_
  refine lv_iload hx hb dX3_isDone_67 (lv_at hl 0 rfl) ?_
  refine jk_u hf (fun res hres => jv_run hx hb hml hown hts hK hN c_hG c_hNW hl.1 (n := 1) (As := [.int v3]) (rest := []) (c_cX3_takeStates l hap σ6 v3 res hres) hP (ci := 3) (q0 := 31) rfl rfl rfl kw_595 kw_592 kw_594 kw_10 kw_63 ⟨rfl, rfl⟩ (by decide +kernel) rfl ⟨Nat.le_of_ble_eq_true rfl, Nat.le_of_ble_eq_true rfl⟩ rfl (Nat.le_of_ble_eq_true rfl) dX3_isDone_69) hS (fun σ8 H locs hP hS hf => ?_)
  refine lv_aload_n hx hb dX3_isDone_72 rfl (lv_at hl 1 rfl) ?_
  refine c_gX3_failure hx hb hts hown hK hP (hts _ kw_377) dX3_isDone_73 ?_
  refine jk_i hf (fun res hres => jv_run hx hb hml hown hts hK hN c_hG c_hNW hl.1 (n := 0) (As := []) (rest := []) (c_cX2_is l hap σ8 res hres) hP (ci := 2) (q0 := 16) rfl rfl rfl kw_584 kw_581 kw_582 kw_583 kw_56 ⟨rfl, rfl⟩ (by decide +kernel) rfl ⟨Nat.le_of_ble_eq_true rfl, Nat.le_of_ble_eq_true rfl⟩ rfl (Nat.le_of_ble_eq_true rfl) dX3_isDone_76) hS (fun v9 σ10 H locs hP hS hf => ?_)
  refine jb_ne (tgt := 103) hx hb hf dX3_isDone_79 (by decide) (fun hf => ?_) (fun hf => ?_)
  · exact (p_cX3_isDone_b103 C hap) σ10 v3 hf H locs ls hP hS (lv_sub hl [1, 0] rfl)
  · refine lv_aload_n hx hb dX3_isDone_82 rfl (lv_at hl 1 rfl) ?_
    refine c_gX3_actor hx hb hts hown hK hP (hts _ kw_376) dX3_isDone_83 ?_
    refine lv_iconst (v := 5) hx hb dX3_isDone_86 (by decide) ?_
    refine lv_iload hx hb dX3_isDone_87 (lv_at hl 0 rfl) ?_
    refine lv_iconst (v := (-1)) hx hb dX3_isDone_89 (by decide) ?_
    refine lv_lconst (v := 0) hx hb dX3_isDone_90 (by decide) ?_
    refine jk_l hf (fun res hres => jv_run hx hb hml hown hts hK hN c_hG c_hNW hl.1 (n := 4) (As := [.int 5, .int v3, .int (-1), .long 0]) (rest := []) (c_cX0_comesTo l hap σ10 5 v3 (-1) 0 res hres) hP (ci := 0) (q0 := 23) rfl rfl rfl kw_555 kw_552 kw_553 kw_554 kw_61 ⟨rfl, rfl⟩ (by decide +kernel) rfl ⟨Nat.le_of_ble_eq_true rfl, Nat.le_of_ble_eq_true rfl⟩ rfl (Nat.le_of_ble_eq_true rfl) dX3_isDone_91) hS (fun v11 σ12 H locs hP hS hf => ?_)
    refine lv_lconst (v := 0) hx hb dX3_isDone_94 (by decide) ?_
    refine jl_eq (tgt := 103) hx hb hf dX3_isDone_95 dX3_isDone_96 (by decide) (fun hf => ?_) (fun hf => ?_)
    · exact (p_cX3_isDone_b103 C hap) σ12 v3 hf H locs ls hP hS (lv_sub hl [1, 0] rfl)
    · refine lv_iconst (v := 1) hx hb dX3_isDone_99 (by decide) ?_
      refine lv_goto (tgt := 104) hx hb dX3_isDone_100 (by decide) ?_
      exact (p_cX3_isDone_b104 C hap) σ12 v3 1 hf H locs ls hP hS (lv_sub hl [1, 0] rfl)
theorem c_cX3_isDone (l : Launch) {dC : Nat → ClassId} {dI : Nat → Nat → Nat} {kA : Nat → ClassId} {ad : Nat → Nat} (hap : jw_ap 57 ad) (σ : RS) (x1 : Int32) (x2 : Int64) (res : Int32 × RS) (hf : s_cX3_isDone σ x1 x2 = some res) : jm_i l KW NW (dC, dI) vwCl (jtys kA) (jw_A 57 ad) (c_w kA ad) yX3_isDone cX3_isDone 6 .boolean (rm_cX3_isDone) [.ref (ad 31), .int x1, .long x2] σ res := jm_i_of (by decide) (Nat.le_of_ble_eq_true rfl) (fun p e s m below meth c C hP hS ls hl => p_cX3_isDone C hap σ x1 x2 hf s.heap [] ls hP hS hl)

def rm_cX7_sendAll : Room := { frames := 45, cells := 0, slots := 0, locals := 1293 }
def G_cX7_sendAll_b102 (p : Program) (l : Launch) (e : Env) (s : State) (m : MethodId) (args : Array Value) (below : List Frame) (meth : Method) (c : Code) (dC : Nat → ClassId) (dI : Nat → Nat → Nat) (kA : Nat → ClassId) (ad : Nat → Nat) (res : RS) (F : RS → Int32 → Option (RS)) : Prop := ∀ (σ : RS) (x3 : Int32), F σ x3 = some res → ∀ (H : Heap) (locs : List Loc) (ls : Array Slot), va_P (dC, dI) vwCl (c_w kA ad σ) H → va_S (jw_A 57 ad) s.heap H locs → lv_has ls 5 [(0, .ref (ad 24)), (2, .ref (ad 11)), (3, .int x3)] → W p l e rm_cX7_sendAll s m args below meth c H locs 0 0 (c_Qu below dC dI kA ad args s res) (F0 m 102 ls [])
def G_cX7_sendAll_b85 (p : Program) (l : Launch) (e : Env) (s : State) (m : MethodId) (args : Array Value) (below : List Frame) (meth : Method) (c : Code) (dC : Nat → ClassId) (dI : Nat → Nat → Nat) (kA : Nat → ClassId) (ad : Nat → Nat) (res : RS) (F : RS → Int32 → Int32 → Option (RS)) : Prop := ∀ (σ : RS) (x3 : Int32) (x4 : Int32), F σ x3 x4 = some res → ∀ (H : Heap) (locs : List Loc) (ls : Array Slot), va_P (dC, dI) vwCl (c_w kA ad σ) H → va_S (jw_A 57 ad) s.heap H locs → lv_has ls 5 [(0, .ref (ad 24)), (2, .ref (ad 11)), (3, .int x3), (4, .int x4)] → W p l e rm_cX7_sendAll s m args below meth c H locs 0 0 (c_Qu below dC dI kA ad args s res) (F0 m 85 ls [])
def G_cX7_sendAll_b38 (p : Program) (l : Launch) (e : Env) (s : State) (m : MethodId) (args : Array Value) (below : List Frame) (meth : Method) (c : Code) (dC : Nat → ClassId) (dI : Nat → Nat → Nat) (kA : Nat → ClassId) (ad : Nat → Nat) (res : RS) (F : RS → Int32 → Int32 → Option (RS)) : Prop := ∀ (σ : RS) (x3 : Int32) (x4 : Int32), F σ x3 x4 = some res → ∀ (H : Heap) (locs : List Loc) (ls : Array Slot), va_P (dC, dI) vwCl (c_w kA ad σ) H → va_S (jw_A 57 ad) s.heap H locs → lv_has ls 5 [(0, .ref (ad 24)), (2, .ref (ad 11)), (3, .int x3), (4, .int x4)] → W p l e rm_cX7_sendAll s m args below meth c H locs 0 0 (c_Qu below dC dI kA ad args s res) (F0 m 38 ls [])
def G_cX7_sendAll_b24 (p : Program) (l : Launch) (e : Env) (s : State) (m : MethodId) (args : Array Value) (below : List Frame) (meth : Method) (c : Code) (dC : Nat → ClassId) (dI : Nat → Nat → Nat) (kA : Nat → ClassId) (ad : Nat → Nat) (res : RS) (F : RS → Int32 → Option (RS)) : Prop := ∀ (σ : RS) (x3 : Int32), F σ x3 = some res → ∀ (H : Heap) (locs : List Loc) (ls : Array Slot), va_P (dC, dI) vwCl (c_w kA ad σ) H → va_S (jw_A 57 ad) s.heap H locs → lv_has ls 5 [(0, .ref (ad 24)), (2, .ref (ad 11)), (3, .int x3)] → W p l e rm_cX7_sendAll s m args below meth c H locs 0 0 (c_Qu below dC dI kA ad args s res) (F0 m 24 ls [])
def G_cX7_sendAll_b21 (p : Program) (l : Launch) (e : Env) (s : State) (m : MethodId) (args : Array Value) (below : List Frame) (meth : Method) (c : Code) (dC : Nat → ClassId) (dI : Nat → Nat → Nat) (kA : Nat → ClassId) (ad : Nat → Nat) (res : RS) (F : RS → Option (RS)) : Prop := ∀ (σ : RS), F σ = some res → ∀ (H : Heap) (locs : List Loc) (ls : Array Slot), va_P (dC, dI) vwCl (c_w kA ad σ) H → va_S (jw_A 57 ad) s.heap H locs → lv_has ls 5 [(0, .ref (ad 24))] → W p l e rm_cX7_sendAll s m args below meth c H locs 0 0 (c_Qu below dC dI kA ad args s res) (F0 m 21 ls [.ref (ad 11)])
def G_cX7_sendAll_b102a (p : Program) (l : Launch) (e : Env) (s : State) (m : MethodId) (args : Array Value) (below : List Frame) (meth : Method) (c : Code) (dC : Nat → ClassId) (dI : Nat → Nat → Nat) (kA : Nat → ClassId) (ad : Nat → Nat) (res : RS) (F : RS → Int32 → Option (RS)) : Prop := ∀ (σ : RS) (x3 : Int32), F σ x3 = some res → ∀ (H : Heap) (locs : List Loc) (ls : Array Slot), va_P (dC, dI) vwCl (c_w kA ad σ) H → va_S (jw_A 57 ad) s.heap H locs → lv_has ls 5 [(0, .ref (ad 24)), (2, .ref (ad 12)), (3, .int x3)] → W p l e rm_cX7_sendAll s m args below meth c H locs 0 0 (c_Qu below dC dI kA ad args s res) (F0 m 102 ls [])
def G_cX7_sendAll_b85a (p : Program) (l : Launch) (e : Env) (s : State) (m : MethodId) (args : Array Value) (below : List Frame) (meth : Method) (c : Code) (dC : Nat → ClassId) (dI : Nat → Nat → Nat) (kA : Nat → ClassId) (ad : Nat → Nat) (res : RS) (F : RS → Int32 → Int32 → Option (RS)) : Prop := ∀ (σ : RS) (x3 : Int32) (x4 : Int32), F σ x3 x4 = some res → ∀ (H : Heap) (locs : List Loc) (ls : Array Slot), va_P (dC, dI) vwCl (c_w kA ad σ) H → va_S (jw_A 57 ad) s.heap H locs → lv_has ls 5 [(0, .ref (ad 24)), (2, .ref (ad 12)), (3, .int x3), (4, .int x4)] → W p l e rm_cX7_sendAll s m args below meth c H locs 0 0 (c_Qu below dC dI kA ad args s res) (F0 m 85 ls [])
def G_cX7_sendAll_b38a (p : Program) (l : Launch) (e : Env) (s : State) (m : MethodId) (args : Array Value) (below : List Frame) (meth : Method) (c : Code) (dC : Nat → ClassId) (dI : Nat → Nat → Nat) (kA : Nat → ClassId) (ad : Nat → Nat) (res : RS) (F : RS → Int32 → Int32 → Option (RS)) : Prop := ∀ (σ : RS) (x3 : Int32) (x4 : Int32), F σ x3 x4 = some res → ∀ (H : Heap) (locs : List Loc) (ls : Array Slot), va_P (dC, dI) vwCl (c_w kA ad σ) H → va_S (jw_A 57 ad) s.heap H locs → lv_has ls 5 [(0, .ref (ad 24)), (2, .ref (ad 12)), (3, .int x3), (4, .int x4)] → W p l e rm_cX7_sendAll s m args below meth c H locs 0 0 (c_Qu below dC dI kA ad args s res) (F0 m 38 ls [])
def G_cX7_sendAll_b24a (p : Program) (l : Launch) (e : Env) (s : State) (m : MethodId) (args : Array Value) (below : List Frame) (meth : Method) (c : Code) (dC : Nat → ClassId) (dI : Nat → Nat → Nat) (kA : Nat → ClassId) (ad : Nat → Nat) (res : RS) (F : RS → Int32 → Option (RS)) : Prop := ∀ (σ : RS) (x3 : Int32), F σ x3 = some res → ∀ (H : Heap) (locs : List Loc) (ls : Array Slot), va_P (dC, dI) vwCl (c_w kA ad σ) H → va_S (jw_A 57 ad) s.heap H locs → lv_has ls 5 [(0, .ref (ad 24)), (2, .ref (ad 12)), (3, .int x3)] → W p l e rm_cX7_sendAll s m args below meth c H locs 0 0 (c_Qu below dC dI kA ad args s res) (F0 m 24 ls [])
def G_cX7_sendAll_b21a (p : Program) (l : Launch) (e : Env) (s : State) (m : MethodId) (args : Array Value) (below : List Frame) (meth : Method) (c : Code) (dC : Nat → ClassId) (dI : Nat → Nat → Nat) (kA : Nat → ClassId) (ad : Nat → Nat) (res : RS) (F : RS → Option (RS)) : Prop := ∀ (σ : RS), F σ = some res → ∀ (H : Heap) (locs : List Loc) (ls : Array Slot), va_P (dC, dI) vwCl (c_w kA ad σ) H → va_S (jw_A 57 ad) s.heap H locs → lv_has ls 5 [(0, .ref (ad 24))] → W p l e rm_cX7_sendAll s m args below meth c H locs 0 0 (c_Qu below dC dI kA ad args s res) (F0 m 21 ls [.ref (ad 12)])
def G_cX7_sendAll (p : Program) (l : Launch) (e : Env) (s : State) (m : MethodId) (args : Array Value) (below : List Frame) (meth : Method) (c : Code) (dC : Nat → ClassId) (dI : Nat → Nat → Nat) (kA : Nat → ClassId) (ad : Nat → Nat) (res : RS) (F : RS → Int32 → Option (RS)) : Prop := ∀ (σ : RS) (x1 : Int32), F σ x1 = some res → ∀ (H : Heap) (locs : List Loc) (ls : Array Slot), va_P (dC, dI) vwCl (c_w kA ad σ) H → va_S (jw_A 57 ad) s.heap H locs → lv_has ls 5 [(0, .ref (ad 24)), (1, .int x1)] → W p l e rm_cX7_sendAll s m args below meth c H locs 0 0 (c_Qu below dC dI kA ad args s res) (F0 m 0 ls [])
def s_cX7_sendAll_b102 (k24 : RS → Int32 → Option (RS)) (σ : RS) (x3 : Int32) : Option (RS) := kn_v (x3 + 1) (fun v1 => k24 σ v1)
set_option maxRecDepth 100000 in
set_option maxHeartbeats 4000000 in
theorem p_cX7_sendAll_b102 {p : Program} {l : Launch} {e : Env} {s : State} {m : MethodId} {args : Array Value} {below : List Frame} {meth : Method} {c : Code} {dC : Nat → ClassId} {dI : Nat → Nat → Nat} {kA : Nat → ClassId} {ad : Nat → Nat} (C : jxc cX7_sendAll none 5 RX7 p s m args meth c dC dI kA) (hap : jw_ap 57 ad) {res : RS} {k24 : RS → Int32 → Option (RS)} (hk24 : G_cX7_sendAll_b24 p l e s m args below meth c dC dI kA ad res k24) : G_cX7_sendAll_b102 p l e s m args below meth c dC dI kA ad res (s_cX7_sendAll_b102 k24) := by
  obtain ⟨hx, hb, hml, hown, hts, hr, hlocks, hK, hN⟩ := id C
  intro σ x3 hf H locs ls hP hS hl
  unfold s_cX7_sendAll_b102 at hf
  obtain ⟨v1, e_v1, hf⟩ := kn_v_e hf
  refine lv_iinc (v := v1) (lv' := [(3, .int v1), (0, .ref (ad 24)), (2, .ref (ad 11))]) hx hb dX7_sendAll_102 hl (k := 2) rfl e_v1 (by decide) rfl (fun ls hl => ?_)
  refine lv_goto (tgt := 24) hx hb dX7_sendAll_105 (by decide) ?_
  exact hk24 σ v1 hf H locs ls hP hS (lv_sub hl [1, 2, 0] rfl)
def s_cX7_sendAll_b85 (k24 : RS → Int32 → Option (RS)) (k38 : RS → Int32 → Int32 → Option (RS)) (σ : RS) (x3 : Int32) (x4 : Int32) : Option (RS) := kn_i (s_cX2_is σ) (fun v1 σ2 => if v1 = 0 then (kn_v (x4 + 1) (fun v3 => k38 σ2 x3 v3)) else some σ2)
set_option maxRecDepth 100000 in
set_option maxHeartbeats 4000000 in
theorem p_cX7_sendAll_b85 {p : Program} {l : Launch} {e : Env} {s : State} {m : MethodId} {args : Array Value} {below : List Frame} {meth : Method} {c : Code} {dC : Nat → ClassId} {dI : Nat → Nat → Nat} {kA : Nat → ClassId} {ad : Nat → Nat} (C : jxc cX7_sendAll none 5 RX7 p s m args meth c dC dI kA) (hap : jw_ap 57 ad) {res : RS} {k24 : RS → Int32 → Option (RS)} (hk24 : G_cX7_sendAll_b24 p l e s m args below meth c dC dI kA ad res k24) {k38 : RS → Int32 → Int32 → Option (RS)} (hk38 : G_cX7_sendAll_b38 p l e s m args below meth c dC dI kA ad res k38) : G_cX7_sendAll_b85 p l e s m args below meth c dC dI kA ad res (s_cX7_sendAll_b85 k24 k38) := by
  obtain ⟨hx, hb, hml, hown, hts, hr, hlocks, hK, hN⟩ := id C
  intro σ x3 x4 hf H locs ls hP hS hl
  unfold s_cX7_sendAll_b85 at hf
  refine lv_aload_n hx hb dX7_sendAll_85 rfl (lv_at hl 0 rfl) ?_
  refine c_gX7_failure hx hb hts hown hK hP (hts _ kw_334) dX7_sendAll_86 ?_
  refine jk_i hf (fun res hres => jv_run hx hb hml hown hts hK hN c_hG c_hNW hl.1 (n := 0) (As := []) (rest := []) (c_cX2_is l hap σ res hres) hP (ci := 2) (q0 := 16) rfl rfl rfl kw_584 kw_635 kw_582 kw_583 kw_56 ⟨rfl, rfl⟩ (by decide +kernel) rfl ⟨Nat.le_of_ble_eq_true rfl, Nat.le_of_ble_eq_true rfl⟩ rfl (Nat.le_of_ble_eq_true rfl) dX7_sendAll_89) hS (fun v1 σ2 H locs hP hS hf => ?_)
  refine jb_eq (tgt := 96) hx hb hf dX7_sendAll_92 (by decide) (fun hf => ?_) (fun hf => ?_)
  · obtain ⟨v3, e_v3, hf⟩ := kn_v_e hf
    refine lv_iinc (v := v3) (lv' := [(4, .int v3), (0, .ref (ad 24)), (2, .ref (ad 11)), (3, .int x3)]) hx hb dX7_sendAll_96 hl (k := 3) rfl e_v3 (by decide) rfl (fun ls hl => ?_)
    refine lv_goto (tgt := 38) hx hb dX7_sendAll_99 (by decide) ?_
    exact hk38 σ2 x3 v3 hf H locs ls hP hS (lv_sub hl [1, 2, 3, 0] rfl)
  · exact jr_u hx hb hr hlocks hf hP hS dX7_sendAll_95
def s_cX7_sendAll_b38 (k24 : RS → Int32 → Option (RS)) (k38 : RS → Int32 → Int32 → Option (RS)) (σ : RS) (x3 : Int32) (x4 : Int32) : Option (RS) := if (rg_I σ 3) ≤ x4 then (s_cX7_sendAll_b102 k24 σ x3) else (kn_ld (rg_A σ 6) 40 x4 (fun v1 => if v1 = x3 then (kn_ld (rg_A σ 6) 40 x4 (fun v2 => kn_ld (rg_A σ 4) 12 v2 (fun v3 => if v3 = 0 then (s_cX7_sendAll_b85 k24 k38 σ x3 x4) else (kn_u (s_cX7_sendAlong σ x4) (fun σ5 => s_cX7_sendAll_b85 k24 k38 σ5 x3 x4))))) else (s_cX7_sendAll_b85 k24 k38 σ x3 x4)))
set_option maxRecDepth 100000 in
set_option maxHeartbeats 4000000 in
theorem p_cX7_sendAll_b38 {p : Program} {l : Launch} {e : Env} {s : State} {m : MethodId} {args : Array Value} {below : List Frame} {meth : Method} {c : Code} {dC : Nat → ClassId} {dI : Nat → Nat → Nat} {kA : Nat → ClassId} {ad : Nat → Nat} (C : jxc cX7_sendAll none 5 RX7 p s m args meth c dC dI kA) (hap : jw_ap 57 ad) {res : RS} {k24 : RS → Int32 → Option (RS)} (hk24 : G_cX7_sendAll_b24 p l e s m args below meth c dC dI kA ad res k24) {k38 : RS → Int32 → Int32 → Option (RS)} (hk38 : G_cX7_sendAll_b38 p l e s m args below meth c dC dI kA ad res k38) : G_cX7_sendAll_b38 p l e s m args below meth c dC dI kA ad res (s_cX7_sendAll_b38 k24 k38) := by
  obtain ⟨hx, hb, hml, hown, hts, hr, hlocks, hK, hN⟩ := id C
  intro σ x3 x4 hf H locs ls hP hS hl
  unfold s_cX7_sendAll_b38 at hf
  refine lv_iload hx hb dX7_sendAll_38 (lv_at hl 3 rfl) ?_
  refine lv_aload_n hx hb dX7_sendAll_40 rfl (lv_at hl 0 rfl) ?_
  refine c_gX7_web hx hb hts hown hK hP (hts _ kw_332) dX7_sendAll_41 ?_
  refine c_gX10_arcs hx hb hts hown hK hP (hts _ kw_141) dX7_sendAll_44 ?_
  refine jc_ge (tgt := 102) hx hb hf dX7_sendAll_47 (by decide) (fun hf => ?_) (fun hf => ?_)
  · exact (p_cX7_sendAll_b102 C hap hk24) σ x3 hf H locs ls hP hS (lv_sub hl [0, 1, 2] rfl)
  · refine lv_aload_n hx hb dX7_sendAll_50 rfl (lv_at hl 1 rfl) ?_
    refine lv_iload hx hb dX7_sendAll_51 (lv_at hl 3 rfl) ?_
    refine ja_ild hx hb hK hP 11 0 rfl rfl hf dX7_sendAll_53 (fun v1 hf => ?_)
    refine lv_iload_n hx hb dX7_sendAll_54 rfl (lv_at hl 2 rfl) ?_
    refine jc_ne (tgt := 85) hx hb hf dX7_sendAll_55 (by decide) (fun hf => ?_) (fun hf => ?_)
    · exact (p_cX7_sendAll_b85 C hap hk24 hk38) σ x3 x4 hf H locs ls hP hS (lv_sub hl [0, 1, 2, 3] rfl)
    · refine lv_aload_n hx hb dX7_sendAll_58 rfl (lv_at hl 0 rfl) ?_
      refine c_gX7_web hx hb hts hown hK hP (hts _ kw_332) dX7_sendAll_59 ?_
      refine c_gX10_awake hx hb hts hown hK hP (hts _ kw_123) dX7_sendAll_62 ?_
      refine lv_aload_n hx hb dX7_sendAll_65 rfl (lv_at hl 0 rfl) ?_
      refine c_gX7_web hx hb hts hown hK hP (hts _ kw_332) dX7_sendAll_66 ?_
      refine c_gX10_from hx hb hts hown hK hP (hts _ kw_129) dX7_sendAll_69 ?_
      refine lv_iload hx hb dX7_sendAll_72 (lv_at hl 3 rfl) ?_
      refine ja_ild hx hb hK hP 11 0 rfl rfl hf dX7_sendAll_74 (fun v2 hf => ?_)
      refine ja_zld hx hb hK hP 9 2 rfl rfl hf dX7_sendAll_75 (fun v3 hf => ?_)
      refine jb_eq (tgt := 85) hx hb hf dX7_sendAll_76 (by decide) (fun hf => ?_) (fun hf => ?_)
      · exact (p_cX7_sendAll_b85 C hap hk24 hk38) σ x3 x4 hf H locs ls hP hS (lv_sub hl [0, 1, 2, 3] rfl)
      · refine lv_aload_n hx hb dX7_sendAll_79 rfl (lv_at hl 0 rfl) ?_
        refine lv_iload hx hb dX7_sendAll_80 (lv_at hl 3 rfl) ?_
        refine jk_u hf (fun res hres => jv_run hx hb hml hown hts hK hN c_hG c_hNW hl.1 (n := 1) (As := [.int x4]) (rest := []) (c_cX7_sendAlong l hap σ x4 res hres) hP (ci := 7) (q0 := 24) rfl rfl rfl kw_633 kw_630 kw_632 kw_14 kw_62 ⟨rfl, rfl⟩ (by decide +kernel) rfl ⟨Nat.le_of_ble_eq_true rfl, Nat.le_of_ble_eq_true rfl⟩ rfl (Nat.le_of_ble_eq_true rfl) dX7_sendAll_82) hS (fun σ5 H locs hP hS hf => ?_)
        exact (p_cX7_sendAll_b85 C hap hk24 hk38) σ5 x3 x4 hf H locs ls hP hS (lv_sub hl [0, 1, 2, 3] rfl)
def f_cX7_sendAll_b38 (k24 : RS → Int32 → Option (RS)) : RS → Int32 → Int32 → Option (RS) := kn_fix (fun _ _ _ => none) (s_cX7_sendAll_b38 k24) FU
theorem q_cX7_sendAll_b38 {p : Program} {l : Launch} {e : Env} {s : State} {m : MethodId} {args : Array Value} {below : List Frame} {meth : Method} {c : Code} {dC : Nat → ClassId} {dI : Nat → Nat → Nat} {kA : Nat → ClassId} {ad : Nat → Nat} (C : jxc cX7_sendAll none 5 RX7 p s m args meth c dC dI kA) (hap : jw_ap 57 ad) {res : RS} {k24 : RS → Int32 → Option (RS)} (hk24 : G_cX7_sendAll_b24 p l e s m args below meth c dC dI kA ad res k24) : G_cX7_sendAll_b38 p l e s m args below meth c dC dI kA ad res (f_cX7_sendAll_b38 k24) := kn_fix_ind (G := fun F => G_cX7_sendAll_b38 p l e s m args below meth c dC dI kA ad res F) (fun _ _ _ hf => by cases hf) (fun k38 hk38 => p_cX7_sendAll_b38 C hap hk24 hk38) FU
def s_cX7_sendAll_b24 (k24 : RS → Int32 → Option (RS)) (σ : RS) (x3 : Int32) : Option (RS) := if (rg_I σ 2) ≤ x3 then some σ else (f_cX7_sendAll_b38 k24 σ x3 0)
set_option maxRecDepth 100000 in
set_option maxHeartbeats 4000000 in
theorem p_cX7_sendAll_b24 {p : Program} {l : Launch} {e : Env} {s : State} {m : MethodId} {args : Array Value} {below : List Frame} {meth : Method} {c : Code} {dC : Nat → ClassId} {dI : Nat → Nat → Nat} {kA : Nat → ClassId} {ad : Nat → Nat} (C : jxc cX7_sendAll none 5 RX7 p s m args meth c dC dI kA) (hap : jw_ap 57 ad) {res : RS} {k24 : RS → Int32 → Option (RS)} (hk24 : G_cX7_sendAll_b24 p l e s m args below meth c dC dI kA ad res k24) : G_cX7_sendAll_b24 p l e s m args below meth c dC dI kA ad res (s_cX7_sendAll_b24 k24) := by
  obtain ⟨hx, hb, hml, hown, hts, hr, hlocks, hK, hN⟩ := id C
  intro σ x3 hf H locs ls hP hS hl
  unfold s_cX7_sendAll_b24 at hf
  refine lv_iload_n hx hb dX7_sendAll_24 rfl (lv_at hl 2 rfl) ?_
  refine lv_aload_n hx hb dX7_sendAll_25 rfl (lv_at hl 0 rfl) ?_
  refine c_gX7_web hx hb hts hown hK hP (hts _ kw_332) dX7_sendAll_26 ?_
  refine c_gX10_nodes hx hb hts hown hK hP (hts _ kw_137) dX7_sendAll_29 ?_
  refine jc_ge (tgt := 108) hx hb hf dX7_sendAll_32 (by decide) (fun hf => ?_) (fun hf => ?_)
  · exact jr_u hx hb hr hlocks hf hP hS dX7_sendAll_108
  · refine lv_iconst (v := 0) hx hb dX7_sendAll_35 (by decide) ?_
    refine lv_istore (lv' := [(4, .int 0), (0, .ref (ad 24)), (2, .ref (ad 11)), (3, .int x3)]) hx hb dX7_sendAll_36 hl (by decide) rfl (fun ls hl => ?_)
    exact (q_cX7_sendAll_b38 C hap hk24) σ x3 0 hf H locs ls hP hS (lv_sub hl [1, 2, 3, 0] rfl)
def f_cX7_sendAll_b24 : RS → Int32 → Option (RS) := kn_fix (fun _ _ => none) (s_cX7_sendAll_b24) FU
theorem q_cX7_sendAll_b24 {p : Program} {l : Launch} {e : Env} {s : State} {m : MethodId} {args : Array Value} {below : List Frame} {meth : Method} {c : Code} {dC : Nat → ClassId} {dI : Nat → Nat → Nat} {kA : Nat → ClassId} {ad : Nat → Nat} (C : jxc cX7_sendAll none 5 RX7 p s m args meth c dC dI kA) (hap : jw_ap 57 ad) {res : RS} : G_cX7_sendAll_b24 p l e s m args below meth c dC dI kA ad res (f_cX7_sendAll_b24) := kn_fix_ind (G := fun F => G_cX7_sendAll_b24 p l e s m args below meth c dC dI kA ad res F) (fun _ _ hf => by cases hf) (fun k24 hk24 => p_cX7_sendAll_b24 C hap hk24) FU
def s_cX7_sendAll_b21 (σ : RS) : Option (RS) := f_cX7_sendAll_b24 σ 0
set_option maxRecDepth 100000 in
set_option maxHeartbeats 4000000 in
theorem p_cX7_sendAll_b21 {p : Program} {l : Launch} {e : Env} {s : State} {m : MethodId} {args : Array Value} {below : List Frame} {meth : Method} {c : Code} {dC : Nat → ClassId} {dI : Nat → Nat → Nat} {kA : Nat → ClassId} {ad : Nat → Nat} (C : jxc cX7_sendAll none 5 RX7 p s m args meth c dC dI kA) (hap : jw_ap 57 ad) {res : RS} : G_cX7_sendAll_b21 p l e s m args below meth c dC dI kA ad res (s_cX7_sendAll_b21) := by
  obtain ⟨hx, hb, hml, hown, hts, hr, hlocks, hK, hN⟩ := id C
  intro σ hf H locs ls hP hS hl
  unfold s_cX7_sendAll_b21 at hf
  refine lv_astore_n (lv' := [(2, .ref (ad 11)), (0, .ref (ad 24))]) hx hb dX7_sendAll_21 rfl hl (by decide) rfl (fun ls hl => ?_)
  refine lv_iconst (v := 0) hx hb dX7_sendAll_22 (by decide) ?_
  refine lv_istore_n (lv' := [(3, .int 0), (2, .ref (ad 11)), (0, .ref (ad 24))]) hx hb dX7_sendAll_23 rfl hl (by decide) rfl (fun ls hl => ?_)
  exact (q_cX7_sendAll_b24 C hap) σ 0 hf H locs ls hP hS (lv_sub hl [2, 1, 0] rfl)
def s_cX7_sendAll_b102a (k24 : RS → Int32 → Option (RS)) (σ : RS) (x3 : Int32) : Option (RS) := kn_v (x3 + 1) (fun v1 => k24 σ v1)
set_option maxRecDepth 100000 in
set_option maxHeartbeats 4000000 in
theorem p_cX7_sendAll_b102a {p : Program} {l : Launch} {e : Env} {s : State} {m : MethodId} {args : Array Value} {below : List Frame} {meth : Method} {c : Code} {dC : Nat → ClassId} {dI : Nat → Nat → Nat} {kA : Nat → ClassId} {ad : Nat → Nat} (C : jxc cX7_sendAll none 5 RX7 p s m args meth c dC dI kA) (hap : jw_ap 57 ad) {res : RS} {k24 : RS → Int32 → Option (RS)} (hk24 : G_cX7_sendAll_b24a p l e s m args below meth c dC dI kA ad res k24) : G_cX7_sendAll_b102a p l e s m args below meth c dC dI kA ad res (s_cX7_sendAll_b102a k24) := by
  obtain ⟨hx, hb, hml, hown, hts, hr, hlocks, hK, hN⟩ := id C
  intro σ x3 hf H locs ls hP hS hl
  unfold s_cX7_sendAll_b102a at hf
  obtain ⟨v1, e_v1, hf⟩ := kn_v_e hf
  refine lv_iinc (v := v1) (lv' := [(3, .int v1), (0, .ref (ad 24)), (2, .ref (ad 12))]) hx hb dX7_sendAll_102 hl (k := 2) rfl e_v1 (by decide) rfl (fun ls hl => ?_)
  refine lv_goto (tgt := 24) hx hb dX7_sendAll_105 (by decide) ?_
  exact hk24 σ v1 hf H locs ls hP hS (lv_sub hl [1, 2, 0] rfl)
def s_cX7_sendAll_b85a (k24 : RS → Int32 → Option (RS)) (k38 : RS → Int32 → Int32 → Option (RS)) (σ : RS) (x3 : Int32) (x4 : Int32) : Option (RS) := kn_i (s_cX2_is σ) (fun v1 σ2 => if v1 = 0 then (kn_v (x4 + 1) (fun v3 => k38 σ2 x3 v3)) else some σ2)
set_option maxRecDepth 100000 in
set_option maxHeartbeats 4000000 in
theorem p_cX7_sendAll_b85a {p : Program} {l : Launch} {e : Env} {s : State} {m : MethodId} {args : Array Value} {below : List Frame} {meth : Method} {c : Code} {dC : Nat → ClassId} {dI : Nat → Nat → Nat} {kA : Nat → ClassId} {ad : Nat → Nat} (C : jxc cX7_sendAll none 5 RX7 p s m args meth c dC dI kA) (hap : jw_ap 57 ad) {res : RS} {k24 : RS → Int32 → Option (RS)} (hk24 : G_cX7_sendAll_b24a p l e s m args below meth c dC dI kA ad res k24) {k38 : RS → Int32 → Int32 → Option (RS)} (hk38 : G_cX7_sendAll_b38a p l e s m args below meth c dC dI kA ad res k38) : G_cX7_sendAll_b85a p l e s m args below meth c dC dI kA ad res (s_cX7_sendAll_b85a k24 k38) := by
  obtain ⟨hx, hb, hml, hown, hts, hr, hlocks, hK, hN⟩ := id C
  intro σ x3 x4 hf H locs ls hP hS hl
  unfold s_cX7_sendAll_b85a at hf
  refine lv_aload_n hx hb dX7_sendAll_85 rfl (lv_at hl 0 rfl) ?_
  refine c_gX7_failure hx hb hts hown hK hP (hts _ kw_334) dX7_sendAll_86 ?_
  refine jk_i hf (fun res hres => jv_run hx hb hml hown hts hK hN c_hG c_hNW hl.1 (n := 0) (As := []) (rest := []) (c_cX2_is l hap σ res hres) hP (ci := 2) (q0 := 16) rfl rfl rfl kw_584 kw_635 kw_582 kw_583 kw_56 ⟨rfl, rfl⟩ (by decide +kernel) rfl ⟨Nat.le_of_ble_eq_true rfl, Nat.le_of_ble_eq_true rfl⟩ rfl (Nat.le_of_ble_eq_true rfl) dX7_sendAll_89) hS (fun v1 σ2 H locs hP hS hf => ?_)
  refine jb_eq (tgt := 96) hx hb hf dX7_sendAll_92 (by decide) (fun hf => ?_) (fun hf => ?_)
  · obtain ⟨v3, e_v3, hf⟩ := kn_v_e hf
    refine lv_iinc (v := v3) (lv' := [(4, .int v3), (0, .ref (ad 24)), (2, .ref (ad 12)), (3, .int x3)]) hx hb dX7_sendAll_96 hl (k := 3) rfl e_v3 (by decide) rfl (fun ls hl => ?_)
    refine lv_goto (tgt := 38) hx hb dX7_sendAll_99 (by decide) ?_
    exact hk38 σ2 x3 v3 hf H locs ls hP hS (lv_sub hl [1, 2, 3, 0] rfl)
  · exact jr_u hx hb hr hlocks hf hP hS dX7_sendAll_95
def s_cX7_sendAll_b38a (k24 : RS → Int32 → Option (RS)) (k38 : RS → Int32 → Int32 → Option (RS)) (σ : RS) (x3 : Int32) (x4 : Int32) : Option (RS) := if (rg_I σ 3) ≤ x4 then (s_cX7_sendAll_b102a k24 σ x3) else (kn_ld (rg_A σ 7) 40 x4 (fun v1 => if v1 = x3 then (kn_ld (rg_A σ 6) 40 x4 (fun v2 => kn_ld (rg_A σ 4) 12 v2 (fun v3 => if v3 = 0 then (s_cX7_sendAll_b85a k24 k38 σ x3 x4) else (kn_u (s_cX7_sendAlong σ x4) (fun σ5 => s_cX7_sendAll_b85a k24 k38 σ5 x3 x4))))) else (s_cX7_sendAll_b85a k24 k38 σ x3 x4)))
set_option maxRecDepth 100000 in
set_option maxHeartbeats 4000000 in
theorem p_cX7_sendAll_b38a {p : Program} {l : Launch} {e : Env} {s : State} {m : MethodId} {args : Array Value} {below : List Frame} {meth : Method} {c : Code} {dC : Nat → ClassId} {dI : Nat → Nat → Nat} {kA : Nat → ClassId} {ad : Nat → Nat} (C : jxc cX7_sendAll none 5 RX7 p s m args meth c dC dI kA) (hap : jw_ap 57 ad) {res : RS} {k24 : RS → Int32 → Option (RS)} (hk24 : G_cX7_sendAll_b24a p l e s m args below meth c dC dI kA ad res k24) {k38 : RS → Int32 → Int32 → Option (RS)} (hk38 : G_cX7_sendAll_b38a p l e s m args below meth c dC dI kA ad res k38) : G_cX7_sendAll_b38a p l e s m args below meth c dC dI kA ad res (s_cX7_sendAll_b38a k24 k38) := by
  obtain ⟨hx, hb, hml, hown, hts, hr, hlocks, hK, hN⟩ := id C
  intro σ x3 x4 hf H locs ls hP hS hl
  unfold s_cX7_sendAll_b38a at hf
  refine lv_iload hx hb dX7_sendAll_38 (lv_at hl 3 rfl) ?_
  refine lv_aload_n hx hb dX7_sendAll_40 rfl (lv_at hl 0 rfl) ?_
  refine c_gX7_web hx hb hts hown hK hP (hts _ kw_332) dX7_sendAll_41 ?_
  refine c_gX10_arcs hx hb hts hown hK hP (hts _ kw_141) dX7_sendAll_44 ?_
  refine jc_ge (tgt := 102) hx hb hf dX7_sendAll_47 (by decide) (fun hf => ?_) (fun hf => ?_)
  · exact (p_cX7_sendAll_b102a C hap hk24) σ x3 hf H locs ls hP hS (lv_sub hl [0, 1, 2] rfl)
  · refine lv_aload_n hx hb dX7_sendAll_50 rfl (lv_at hl 1 rfl) ?_
    refine lv_iload hx hb dX7_sendAll_51 (lv_at hl 3 rfl) ?_
    refine ja_ild hx hb hK hP 12 0 rfl rfl hf dX7_sendAll_53 (fun v1 hf => ?_)
    refine lv_iload_n hx hb dX7_sendAll_54 rfl (lv_at hl 2 rfl) ?_
    refine jc_ne (tgt := 85) hx hb hf dX7_sendAll_55 (by decide) (fun hf => ?_) (fun hf => ?_)
    · exact (p_cX7_sendAll_b85a C hap hk24 hk38) σ x3 x4 hf H locs ls hP hS (lv_sub hl [0, 1, 2, 3] rfl)
    · refine lv_aload_n hx hb dX7_sendAll_58 rfl (lv_at hl 0 rfl) ?_
      refine c_gX7_web hx hb hts hown hK hP (hts _ kw_332) dX7_sendAll_59 ?_
      refine c_gX10_awake hx hb hts hown hK hP (hts _ kw_123) dX7_sendAll_62 ?_
      refine lv_aload_n hx hb dX7_sendAll_65 rfl (lv_at hl 0 rfl) ?_
      refine c_gX7_web hx hb hts hown hK hP (hts _ kw_332) dX7_sendAll_66 ?_
      refine c_gX10_from hx hb hts hown hK hP (hts _ kw_129) dX7_sendAll_69 ?_
      refine lv_iload hx hb dX7_sendAll_72 (lv_at hl 3 rfl) ?_
      refine ja_ild hx hb hK hP 11 0 rfl rfl hf dX7_sendAll_74 (fun v2 hf => ?_)
      refine ja_zld hx hb hK hP 9 2 rfl rfl hf dX7_sendAll_75 (fun v3 hf => ?_)
      refine jb_eq (tgt := 85) hx hb hf dX7_sendAll_76 (by decide) (fun hf => ?_) (fun hf => ?_)
      · exact (p_cX7_sendAll_b85a C hap hk24 hk38) σ x3 x4 hf H locs ls hP hS (lv_sub hl [0, 1, 2, 3] rfl)
      · refine lv_aload_n hx hb dX7_sendAll_79 rfl (lv_at hl 0 rfl) ?_
        refine lv_iload hx hb dX7_sendAll_80 (lv_at hl 3 rfl) ?_
        refine jk_u hf (fun res hres => jv_run hx hb hml hown hts hK hN c_hG c_hNW hl.1 (n := 1) (As := [.int x4]) (rest := []) (c_cX7_sendAlong l hap σ x4 res hres) hP (ci := 7) (q0 := 24) rfl rfl rfl kw_633 kw_630 kw_632 kw_14 kw_62 ⟨rfl, rfl⟩ (by decide +kernel) rfl ⟨Nat.le_of_ble_eq_true rfl, Nat.le_of_ble_eq_true rfl⟩ rfl (Nat.le_of_ble_eq_true rfl) dX7_sendAll_82) hS (fun σ5 H locs hP hS hf => ?_)
        exact (p_cX7_sendAll_b85a C hap hk24 hk38) σ5 x3 x4 hf H locs ls hP hS (lv_sub hl [0, 1, 2, 3] rfl)
def f_cX7_sendAll_b38a (k24 : RS → Int32 → Option (RS)) : RS → Int32 → Int32 → Option (RS) := kn_fix (fun _ _ _ => none) (s_cX7_sendAll_b38a k24) FU
theorem q_cX7_sendAll_b38a {p : Program} {l : Launch} {e : Env} {s : State} {m : MethodId} {args : Array Value} {below : List Frame} {meth : Method} {c : Code} {dC : Nat → ClassId} {dI : Nat → Nat → Nat} {kA : Nat → ClassId} {ad : Nat → Nat} (C : jxc cX7_sendAll none 5 RX7 p s m args meth c dC dI kA) (hap : jw_ap 57 ad) {res : RS} {k24 : RS → Int32 → Option (RS)} (hk24 : G_cX7_sendAll_b24a p l e s m args below meth c dC dI kA ad res k24) : G_cX7_sendAll_b38a p l e s m args below meth c dC dI kA ad res (f_cX7_sendAll_b38a k24) := kn_fix_ind (G := fun F => G_cX7_sendAll_b38a p l e s m args below meth c dC dI kA ad res F) (fun _ _ _ hf => by cases hf) (fun k38 hk38 => p_cX7_sendAll_b38a C hap hk24 hk38) FU
def s_cX7_sendAll_b24a (k24 : RS → Int32 → Option (RS)) (σ : RS) (x3 : Int32) : Option (RS) := if (rg_I σ 2) ≤ x3 then some σ else (f_cX7_sendAll_b38a k24 σ x3 0)
set_option maxRecDepth 100000 in
set_option maxHeartbeats 4000000 in
theorem p_cX7_sendAll_b24a {p : Program} {l : Launch} {e : Env} {s : State} {m : MethodId} {args : Array Value} {below : List Frame} {meth : Method} {c : Code} {dC : Nat → ClassId} {dI : Nat → Nat → Nat} {kA : Nat → ClassId} {ad : Nat → Nat} (C : jxc cX7_sendAll none 5 RX7 p s m args meth c dC dI kA) (hap : jw_ap 57 ad) {res : RS} {k24 : RS → Int32 → Option (RS)} (hk24 : G_cX7_sendAll_b24a p l e s m args below meth c dC dI kA ad res k24) : G_cX7_sendAll_b24a p l e s m args below meth c dC dI kA ad res (s_cX7_sendAll_b24a k24) := by
  obtain ⟨hx, hb, hml, hown, hts, hr, hlocks, hK, hN⟩ := id C
  intro σ x3 hf H locs ls hP hS hl
  unfold s_cX7_sendAll_b24a at hf
  refine lv_iload_n hx hb dX7_sendAll_24 rfl (lv_at hl 2 rfl) ?_
  refine lv_aload_n hx hb dX7_sendAll_25 rfl (lv_at hl 0 rfl) ?_
  refine c_gX7_web hx hb hts hown hK hP (hts _ kw_332) dX7_sendAll_26 ?_
  refine c_gX10_nodes hx hb hts hown hK hP (hts _ kw_137) dX7_sendAll_29 ?_
  refine jc_ge (tgt := 108) hx hb hf dX7_sendAll_32 (by decide) (fun hf => ?_) (fun hf => ?_)
  · exact jr_u hx hb hr hlocks hf hP hS dX7_sendAll_108
  · refine lv_iconst (v := 0) hx hb dX7_sendAll_35 (by decide) ?_
    refine lv_istore (lv' := [(4, .int 0), (0, .ref (ad 24)), (2, .ref (ad 12)), (3, .int x3)]) hx hb dX7_sendAll_36 hl (by decide) rfl (fun ls hl => ?_)
    exact (q_cX7_sendAll_b38a C hap hk24) σ x3 0 hf H locs ls hP hS (lv_sub hl [1, 2, 3, 0] rfl)
def f_cX7_sendAll_b24a : RS → Int32 → Option (RS) := kn_fix (fun _ _ => none) (s_cX7_sendAll_b24a) FU
theorem q_cX7_sendAll_b24a {p : Program} {l : Launch} {e : Env} {s : State} {m : MethodId} {args : Array Value} {below : List Frame} {meth : Method} {c : Code} {dC : Nat → ClassId} {dI : Nat → Nat → Nat} {kA : Nat → ClassId} {ad : Nat → Nat} (C : jxc cX7_sendAll none 5 RX7 p s m args meth c dC dI kA) (hap : jw_ap 57 ad) {res : RS} : G_cX7_sendAll_b24a p l e s m args below meth c dC dI kA ad res (f_cX7_sendAll_b24a) := kn_fix_ind (G := fun F => G_cX7_sendAll_b24a p l e s m args below meth c dC dI kA ad res F) (fun _ _ hf => by cases hf) (fun k24 hk24 => p_cX7_sendAll_b24a C hap hk24) FU
def s_cX7_sendAll_b21a (σ : RS) : Option (RS) := f_cX7_sendAll_b24a σ 0
set_option maxRecDepth 100000 in
set_option maxHeartbeats 4000000 in
theorem p_cX7_sendAll_b21a {p : Program} {l : Launch} {e : Env} {s : State} {m : MethodId} {args : Array Value} {below : List Frame} {meth : Method} {c : Code} {dC : Nat → ClassId} {dI : Nat → Nat → Nat} {kA : Nat → ClassId} {ad : Nat → Nat} (C : jxc cX7_sendAll none 5 RX7 p s m args meth c dC dI kA) (hap : jw_ap 57 ad) {res : RS} : G_cX7_sendAll_b21a p l e s m args below meth c dC dI kA ad res (s_cX7_sendAll_b21a) := by
  obtain ⟨hx, hb, hml, hown, hts, hr, hlocks, hK, hN⟩ := id C
  intro σ hf H locs ls hP hS hl
  unfold s_cX7_sendAll_b21a at hf
  refine lv_astore_n (lv' := [(2, .ref (ad 12)), (0, .ref (ad 24))]) hx hb dX7_sendAll_21 rfl hl (by decide) rfl (fun ls hl => ?_)
  refine lv_iconst (v := 0) hx hb dX7_sendAll_22 (by decide) ?_
  refine lv_istore_n (lv' := [(3, .int 0), (2, .ref (ad 12)), (0, .ref (ad 24))]) hx hb dX7_sendAll_23 rfl hl (by decide) rfl (fun ls hl => ?_)
  exact (q_cX7_sendAll_b24a C hap) σ 0 hf H locs ls hP hS (lv_sub hl [2, 1, 0] rfl)
def s_cX7_sendAll (σ : RS) (x1 : Int32) : Option (RS) := if x1 = 0 then (s_cX7_sendAll_b21 σ) else (s_cX7_sendAll_b21a σ)
set_option maxRecDepth 100000 in
set_option maxHeartbeats 4000000 in
theorem p_cX7_sendAll {p : Program} {l : Launch} {e : Env} {s : State} {m : MethodId} {args : Array Value} {below : List Frame} {meth : Method} {c : Code} {dC : Nat → ClassId} {dI : Nat → Nat → Nat} {kA : Nat → ClassId} {ad : Nat → Nat} (C : jxc cX7_sendAll none 5 RX7 p s m args meth c dC dI kA) (hap : jw_ap 57 ad) {res : RS} : G_cX7_sendAll p l e s m args below meth c dC dI kA ad res (s_cX7_sendAll) := by
  obtain ⟨hx, hb, hml, hown, hts, hr, hlocks, hK, hN⟩ := id C
  intro σ x1 hf H locs ls hP hS hl
  unfold s_cX7_sendAll at hf
  refine lv_iload_n hx hb dX7_sendAll_0 rfl (lv_at hl 1 rfl) ?_
  refine jb_eq (tgt := 14) hx hb hf dX7_sendAll_1 (by decide) (fun hf => ?_) (fun hf => ?_)
  · refine lv_aload_n hx hb dX7_sendAll_14 rfl (lv_at hl 0 rfl) ?_
    refine c_gX7_web hx hb hts hown hK hP (hts _ kw_332) dX7_sendAll_15 ?_
    refine c_gX10_from hx hb hts hown hK hP (hts _ kw_129) dX7_sendAll_18 ?_
    exact (p_cX7_sendAll_b21 C hap) σ hf H locs ls hP hS (lv_sub hl [0] rfl)
  · refine lv_aload_n hx hb dX7_sendAll_4 rfl (lv_at hl 0 rfl) ?_
    refine c_gX7_web hx hb hts hown hK hP (hts _ kw_332) dX7_sendAll_5 ?_
    refine c_gX10_to hx hb hts hown hK hP (hts _ kw_131) dX7_sendAll_8 ?_
    refine lv_goto (tgt := 21) hx hb dX7_sendAll_11 (by decide) ?_
    exact (p_cX7_sendAll_b21a C hap) σ hf H locs ls hP hS (lv_sub hl [0] rfl)
theorem c_cX7_sendAll (l : Launch) {dC : Nat → ClassId} {dI : Nat → Nat → Nat} {kA : Nat → ClassId} {ad : Nat → Nat} (hap : jw_ap 57 ad) (σ : RS) (x1 : Int32) (res : RS) (hf : s_cX7_sendAll σ x1 = some res) : jm_u l KW NW (dC, dI) vwCl (jtys kA) (jw_A 57 ad) (c_w kA ad) yX7_sendAll cX7_sendAll 5 (rm_cX7_sendAll) [.ref (ad 24), .int x1] σ res := jm_u_of (by decide) (Nat.le_of_ble_eq_true rfl) (fun p e s m below meth c C hP hS ls hl => p_cX7_sendAll C hap σ x1 hf s.heap [] ls hP hS hl)
