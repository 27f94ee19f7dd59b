theorem dX12_renew_0 : decode cX12_renew 0 = .ok (.aload_n 0, 1) := by decide +kernel
theorem dX12_renew_1 : decode cX12_renew 1 = .ok (.iload_n 1, 1) := by decide +kernel
theorem dX12_renew_2 : decode cX12_renew 2 = .ok (.invokevirtual 224, 3) := by decide +kernel
theorem dX12_renew_5 : decode cX12_renew 5 = .ok (.iconst 0, 1) := by decide +kernel
theorem dX12_renew_6 : decode cX12_renew 6 = .ok (.istore_n 2, 1) := by decide +kernel
theorem dX12_renew_7 : decode cX12_renew 7 = .ok (.iload_n 2, 1) := by decide +kernel
theorem dX12_renew_8 : decode cX12_renew 8 = .ok (.iconst 3, 1) := by decide +kernel
theorem dX12_renew_9 : decode cX12_renew 9 = .ok (.if_icmp .ge 54, 3) := by decide +kernel
theorem dX12_renew_12 : decode cX12_renew 12 = .ok (.aload_n 0, 1) := by decide +kernel
theorem dX12_renew_13 : decode cX12_renew 13 = .ok (.invokevirtual 210, 3) := by decide +kernel
theorem dX12_renew_16 : decode cX12_renew 16 = .ok (.ifCond .ne 47, 3) := by decide +kernel
theorem dX12_renew_19 : decode cX12_renew 19 = .ok (.aload_n 0, 1) := by decide +kernel
theorem dX12_renew_20 : decode cX12_renew 20 = .ok (.getfield 42, 3) := by decide +kernel
theorem dX12_renew_23 : decode cX12_renew 23 = .ok (.iconst 2, 1) := by decide +kernel
theorem dX12_renew_24 : decode cX12_renew 24 = .ok (.iload_n 2, 1) := by decide +kernel
theorem dX12_renew_25 : decode cX12_renew 25 = .ok (.iadd, 1) := by decide +kernel
theorem dX12_renew_26 : decode cX12_renew 26 = .ok (.iaload, 1) := by decide +kernel
theorem dX12_renew_27 : decode cX12_renew 27 = .ok (.iconst (-1), 1) := by decide +kernel
theorem dX12_renew_28 : decode cX12_renew 28 = .ok (.if_icmp .eq 29, 3) := by decide +kernel
theorem dX12_renew_31 : decode cX12_renew 31 = .ok (.aload_n 0, 1) := by decide +kernel
theorem dX12_renew_32 : decode cX12_renew 32 = .ok (.iconst 2, 1) := by decide +kernel
theorem dX12_renew_33 : decode cX12_renew 33 = .ok (.iload_n 2, 1) := by decide +kernel
theorem dX12_renew_34 : decode cX12_renew 34 = .ok (.iadd, 1) := by decide +kernel
theorem dX12_renew_35 : decode cX12_renew 35 = .ok (.iload_n 1, 1) := by decide +kernel
theorem dX12_renew_36 : decode cX12_renew 36 = .ok (.iconst (-1), 1) := by decide +kernel
theorem dX12_renew_37 : decode cX12_renew 37 = .ok (.invokevirtual 201, 3) := by decide +kernel
theorem dX12_renew_40 : decode cX12_renew 40 = .ok (.ifCond .eq 17, 3) := by decide +kernel
theorem dX12_renew_43 : decode cX12_renew 43 = .ok (.aload_n 0, 1) := by decide +kernel
theorem dX12_renew_44 : decode cX12_renew 44 = .ok (.getfield 84, 3) := by decide +kernel
theorem dX12_renew_47 : decode cX12_renew 47 = .ok (.iconst 3, 1) := by decide +kernel
theorem dX12_renew_48 : decode cX12_renew 48 = .ok (.iload_n 1, 1) := by decide +kernel
theorem dX12_renew_49 : decode cX12_renew 49 = .ok (.imul, 1) := by decide +kernel
theorem dX12_renew_50 : decode cX12_renew 50 = .ok (.iload_n 2, 1) := by decide +kernel
theorem dX12_renew_51 : decode cX12_renew 51 = .ok (.iadd, 1) := by decide +kernel
theorem dX12_renew_52 : decode cX12_renew 52 = .ok (.aload_n 0, 1) := by decide +kernel
theorem dX12_renew_53 : decode cX12_renew 53 = .ok (.getfield 165, 3) := by decide +kernel
theorem dX12_renew_56 : decode cX12_renew 56 = .ok (.lastore, 1) := by decide +kernel
theorem dX12_renew_57 : decode cX12_renew 57 = .ok (.iinc 2 1, 3) := by decide +kernel
theorem dX12_renew_60 : decode cX12_renew 60 = .ok (.goto (-53), 3) := by decide +kernel
theorem dX12_renew_63 : decode cX12_renew 63 = .ok (.aload_n 0, 1) := by decide +kernel
theorem dX12_renew_64 : decode cX12_renew 64 = .ok (.getfield 87, 3) := by decide +kernel
theorem dX12_renew_67 : decode cX12_renew 67 = .ok (.iload_n 1, 1) := by decide +kernel
theorem dX12_renew_68 : decode cX12_renew 68 = .ok (.iconst 1, 1) := by decide +kernel
theorem dX12_renew_69 : decode cX12_renew 69 = .ok (.bastore, 1) := by decide +kernel
theorem dX12_renew_70 : decode cX12_renew 70 = .ok (.aload_n 0, 1) := by decide +kernel
theorem dX12_renew_71 : decode cX12_renew 71 = .ok (.invokevirtual 210, 3) := by decide +kernel
theorem dX12_renew_74 : decode cX12_renew 74 = .ok (.ifCond .ne 43, 3) := by decide +kernel
theorem dX12_renew_77 : decode cX12_renew 77 = .ok (.aload_n 0, 1) := by decide +kernel
theorem dX12_renew_78 : decode cX12_renew 78 = .ok (.getfield 42, 3) := by decide +kernel
theorem dX12_renew_81 : decode cX12_renew 81 = .ok (.iconst 5, 1) := by decide +kernel
theorem dX12_renew_82 : decode cX12_renew 82 = .ok (.iaload, 1) := by decide +kernel
theorem dX12_renew_83 : decode cX12_renew 83 = .ok (.iconst (-1), 1) := by decide +kernel
theorem dX12_renew_84 : decode cX12_renew 84 = .ok (.if_icmp .eq 33, 3) := by decide +kernel
theorem dX12_renew_87 : decode cX12_renew 87 = .ok (.aload_n 0, 1) := by decide +kernel
theorem dX12_renew_88 : decode cX12_renew 88 = .ok (.iconst 5, 1) := by decide +kernel
theorem dX12_renew_89 : decode cX12_renew 89 = .ok (.iload_n 1, 1) := by decide +kernel
theorem dX12_renew_90 : decode cX12_renew 90 = .ok (.iconst (-1), 1) := by decide +kernel
theorem dX12_renew_91 : decode cX12_renew 91 = .ok (.invokevirtual 201, 3) := by decide +kernel
theorem dX12_renew_94 : decode cX12_renew 94 = .ok (.ifCond .eq 23, 3) := by decide +kernel
theorem dX12_renew_97 : decode cX12_renew 97 = .ok (.aload_n 0, 1) := by decide +kernel
theorem dX12_renew_98 : decode cX12_renew 98 = .ok (.getfield 87, 3) := by decide +kernel
theorem dX12_renew_101 : decode cX12_renew 101 = .ok (.iload_n 1, 1) := by decide +kernel
theorem dX12_renew_102 : decode cX12_renew 102 = .ok (.aload_n 0, 1) := by decide +kernel
theorem dX12_renew_103 : decode cX12_renew 103 = .ok (.getfield 165, 3) := by decide +kernel
theorem dX12_renew_106 : decode cX12_renew 106 = .ok (.lconst 0, 1) := by decide +kernel
theorem dX12_renew_107 : decode cX12_renew 107 = .ok (.lcmp, 1) := by decide +kernel
theorem dX12_renew_108 : decode cX12_renew 108 = .ok (.ifCond .ne 7, 3) := by decide +kernel
theorem dX12_renew_111 : decode cX12_renew 111 = .ok (.iconst 1, 1) := by decide +kernel
theorem dX12_renew_112 : decode cX12_renew 112 = .ok (.goto 4, 3) := by decide +kernel
theorem dX12_renew_115 : decode cX12_renew 115 = .ok (.iconst 0, 1) := by decide +kernel
theorem dX12_renew_116 : decode cX12_renew 116 = .ok (.bastore, 1) := by decide +kernel
theorem dX12_renew_117 : decode cX12_renew 117 = .ok (.return_, 1) := by decide +kernel
theorem dX12_round_0 : decode cX12_round 0 = .ok (.aload_n 0, 1) := by decide +kernel
theorem dX12_round_1 : decode cX12_round 1 = .ok (.iconst 0, 1) := by decide +kernel
theorem dX12_round_2 : decode cX12_round 2 = .ok (.putfield 159, 3) := by decide +kernel
theorem dX12_round_5 : decode cX12_round 5 = .ok (.aload_n 0, 1) := by decide +kernel
theorem dX12_round_6 : decode cX12_round 6 = .ok (.lconst 0, 1) := by decide +kernel
theorem dX12_round_7 : decode cX12_round 7 = .ok (.putfield 169, 3) := by decide +kernel
theorem dX12_round_10 : decode cX12_round 10 = .ok (.aload_n 0, 1) := by decide +kernel
theorem dX12_round_11 : decode cX12_round 11 = .ok (.iconst 0, 1) := by decide +kernel
theorem dX12_round_12 : decode cX12_round 12 = .ok (.putfield 172, 3) := by decide +kernel
theorem dX12_round_15 : decode cX12_round 15 = .ok (.aload_n 0, 1) := by decide +kernel
theorem dX12_round_16 : decode cX12_round 16 = .ok (.invokevirtual 227, 3) := by decide +kernel
theorem dX12_round_19 : decode cX12_round 19 = .ok (.aload_n 0, 1) := by decide +kernel
theorem dX12_round_20 : decode cX12_round 20 = .ok (.iload_n 1, 1) := by decide +kernel
theorem dX12_round_21 : decode cX12_round 21 = .ok (.invokevirtual 230, 3) := by decide +kernel
theorem dX12_round_24 : decode cX12_round 24 = .ok (.iconst 0, 1) := by decide +kernel
theorem dX12_round_25 : decode cX12_round 25 = .ok (.istore_n 2, 1) := by decide +kernel
theorem dX12_round_26 : decode cX12_round 26 = .ok (.iload_n 2, 1) := by decide +kernel
theorem dX12_round_27 : decode cX12_round 27 = .ok (.bipush 36, 2) := by decide +kernel
theorem dX12_round_29 : decode cX12_round 29 = .ok (.if_icmp .ge 21, 3) := by decide +kernel
theorem dX12_round_32 : decode cX12_round 32 = .ok (.aload_n 0, 1) := by decide +kernel
theorem dX12_round_33 : decode cX12_round 33 = .ok (.getfield 84, 3) := by decide +kernel
theorem dX12_round_36 : decode cX12_round 36 = .ok (.iload_n 2, 1) := by decide +kernel
theorem dX12_round_37 : decode cX12_round 37 = .ok (.aload_n 0, 1) := by decide +kernel
theorem dX12_round_38 : decode cX12_round 38 = .ok (.getfield 26, 3) := by decide +kernel
theorem dX12_round_41 : decode cX12_round 41 = .ok (.iload_n 2, 1) := by decide +kernel
theorem dX12_round_42 : decode cX12_round 42 = .ok (.laload, 1) := by decide +kernel
theorem dX12_round_43 : decode cX12_round 43 = .ok (.lastore, 1) := by decide +kernel
theorem dX12_round_44 : decode cX12_round 44 = .ok (.iinc 2 1, 3) := by decide +kernel
theorem dX12_round_47 : decode cX12_round 47 = .ok (.goto (-21), 3) := by decide +kernel
theorem dX12_round_50 : decode cX12_round 50 = .ok (.iconst 0, 1) := by decide +kernel
theorem dX12_round_51 : decode cX12_round 51 = .ok (.istore_n 2, 1) := by decide +kernel
theorem dX12_round_52 : decode cX12_round 52 = .ok (.iload_n 2, 1) := by decide +kernel
theorem dX12_round_53 : decode cX12_round 53 = .ok (.aload_n 0, 1) := by decide +kernel
theorem dX12_round_54 : decode cX12_round 54 = .ok (.getfield 116, 3) := by decide +kernel
theorem dX12_round_57 : decode cX12_round 57 = .ok (.if_icmp .ge 21, 3) := by decide +kernel
theorem dX12_round_60 : decode cX12_round 60 = .ok (.aload_n 0, 1) := by decide +kernel
theorem dX12_round_61 : decode cX12_round 61 = .ok (.getfield 87, 3) := by decide +kernel
theorem dX12_round_64 : decode cX12_round 64 = .ok (.iload_n 2, 1) := by decide +kernel
theorem dX12_round_65 : decode cX12_round 65 = .ok (.aload_n 0, 1) := by decide +kernel
theorem dX12_round_66 : decode cX12_round 66 = .ok (.getfield 29, 3) := by decide +kernel
theorem dX12_round_69 : decode cX12_round 69 = .ok (.iload_n 2, 1) := by decide +kernel
theorem dX12_round_70 : decode cX12_round 70 = .ok (.baload, 1) := by decide +kernel
theorem dX12_round_71 : decode cX12_round 71 = .ok (.bastore, 1) := by decide +kernel
theorem dX12_round_72 : decode cX12_round 72 = .ok (.iinc 2 1, 3) := by decide +kernel
theorem dX12_round_75 : decode cX12_round 75 = .ok (.goto (-23), 3) := by decide +kernel
theorem dX12_round_78 : decode cX12_round 78 = .ok (.iconst 0, 1) := by decide +kernel
theorem dX12_round_79 : decode cX12_round 79 = .ok (.istore_n 2, 1) := by decide +kernel
theorem dX12_round_80 : decode cX12_round 80 = .ok (.iload_n 2, 1) := by decide +kernel
theorem dX12_round_81 : decode cX12_round 81 = .ok (.aload_n 0, 1) := by decide +kernel
theorem dX12_round_82 : decode cX12_round 82 = .ok (.getfield 116, 3) := by decide +kernel
theorem dX12_round_85 : decode cX12_round 85 = .ok (.if_icmp .ge 29, 3) := by decide +kernel
theorem dX12_round_88 : decode cX12_round 88 = .ok (.aload_n 0, 1) := by decide +kernel
theorem dX12_round_89 : decode cX12_round 89 = .ok (.invokevirtual 210, 3) := by decide +kernel
theorem dX12_round_92 : decode cX12_round 92 = .ok (.ifCond .ne 22, 3) := by decide +kernel
theorem dX12_round_95 : decode cX12_round 95 = .ok (.aload_n 0, 1) := by decide +kernel
theorem dX12_round_96 : decode cX12_round 96 = .ok (.iload_n 2, 1) := by decide +kernel
theorem dX12_round_97 : decode cX12_round 97 = .ok (.invokevirtual 233, 3) := by decide +kernel
theorem dX12_round_100 : decode cX12_round 100 = .ok (.ifCond .eq 8, 3) := by decide +kernel
theorem dX12_round_103 : decode cX12_round 103 = .ok (.aload_n 0, 1) := by decide +kernel
theorem dX12_round_104 : decode cX12_round 104 = .ok (.iload_n 2, 1) := by decide +kernel
theorem dX12_round_105 : decode cX12_round 105 = .ok (.invokevirtual 236, 3) := by decide +kernel
theorem dX12_round_108 : decode cX12_round 108 = .ok (.iinc 2 1, 3) := by decide +kernel
theorem dX12_round_111 : decode cX12_round 111 = .ok (.goto (-31), 3) := by decide +kernel
theorem dX12_round_114 : decode cX12_round 114 = .ok (.aload_n 0, 1) := by decide +kernel
theorem dX12_round_115 : decode cX12_round 115 = .ok (.invokevirtual 210, 3) := by decide +kernel
theorem dX12_round_118 : decode cX12_round 118 = .ok (.ifCond .eq 5, 3) := by decide +kernel
theorem dX12_round_121 : decode cX12_round 121 = .ok (.iconst 0, 1) := by decide +kernel
theorem dX12_round_122 : decode cX12_round 122 = .ok (.ireturn, 1) := by decide +kernel
theorem dX12_round_123 : decode cX12_round 123 = .ok (.iconst 0, 1) := by decide +kernel
theorem dX12_round_124 : decode cX12_round 124 = .ok (.istore_n 2, 1) := by decide +kernel
theorem dX12_round_125 : decode cX12_round 125 = .ok (.iload_n 2, 1) := by decide +kernel
theorem dX12_round_126 : decode cX12_round 126 = .ok (.bipush 36, 2) := by decide +kernel
theorem dX12_round_128 : decode cX12_round 128 = .ok (.if_icmp .ge 21, 3) := by decide +kernel
theorem dX12_round_131 : decode cX12_round 131 = .ok (.aload_n 0, 1) := by decide +kernel
theorem dX12_round_132 : decode cX12_round 132 = .ok (.getfield 26, 3) := by decide +kernel
theorem dX12_round_135 : decode cX12_round 135 = .ok (.iload_n 2, 1) := by decide +kernel
theorem dX12_round_136 : decode cX12_round 136 = .ok (.aload_n 0, 1) := by decide +kernel
theorem dX12_round_137 : decode cX12_round 137 = .ok (.getfield 84, 3) := by decide +kernel
theorem dX12_round_140 : decode cX12_round 140 = .ok (.iload_n 2, 1) := by decide +kernel
theorem dX12_round_141 : decode cX12_round 141 = .ok (.laload, 1) := by decide +kernel
theorem dX12_round_142 : decode cX12_round 142 = .ok (.lastore, 1) := by decide +kernel
theorem dX12_round_143 : decode cX12_round 143 = .ok (.iinc 2 1, 3) := by decide +kernel
theorem dX12_round_146 : decode cX12_round 146 = .ok (.goto (-21), 3) := by decide +kernel
theorem dX12_round_149 : decode cX12_round 149 = .ok (.iconst 0, 1) := by decide +kernel
theorem dX12_round_150 : decode cX12_round 150 = .ok (.istore_n 2, 1) := by decide +kernel
theorem dX12_round_151 : decode cX12_round 151 = .ok (.iload_n 2, 1) := by decide +kernel
theorem dX12_round_152 : decode cX12_round 152 = .ok (.aload_n 0, 1) := by decide +kernel
theorem dX12_round_153 : decode cX12_round 153 = .ok (.getfield 116, 3) := by decide +kernel
theorem dX12_round_156 : decode cX12_round 156 = .ok (.if_icmp .ge 21, 3) := by decide +kernel
theorem dX12_round_159 : decode cX12_round 159 = .ok (.aload_n 0, 1) := by decide +kernel
theorem dX12_round_160 : decode cX12_round 160 = .ok (.getfield 29, 3) := by decide +kernel
theorem dX12_round_163 : decode cX12_round 163 = .ok (.iload_n 2, 1) := by decide +kernel
theorem dX12_round_164 : decode cX12_round 164 = .ok (.aload_n 0, 1) := by decide +kernel
theorem dX12_round_165 : decode cX12_round 165 = .ok (.getfield 87, 3) := by decide +kernel
theorem dX12_round_168 : decode cX12_round 168 = .ok (.iload_n 2, 1) := by decide +kernel
theorem dX12_round_169 : decode cX12_round 169 = .ok (.baload, 1) := by decide +kernel
theorem dX12_round_170 : decode cX12_round 170 = .ok (.bastore, 1) := by decide +kernel
theorem dX12_round_171 : decode cX12_round 171 = .ok (.iinc 2 1, 3) := by decide +kernel
theorem dX12_round_174 : decode cX12_round 174 = .ok (.goto (-23), 3) := by decide +kernel
theorem dX12_round_177 : decode cX12_round 177 = .ok (.aload_n 0, 1) := by decide +kernel
theorem dX12_round_178 : decode cX12_round 178 = .ok (.lconst 0, 1) := by decide +kernel
theorem dX12_round_179 : decode cX12_round 179 = .ok (.putfield 169, 3) := by decide +kernel
theorem dX12_round_182 : decode cX12_round 182 = .ok (.aload_n 0, 1) := by decide +kernel
theorem dX12_round_183 : decode cX12_round 183 = .ok (.iconst 0, 1) := by decide +kernel
theorem dX12_round_184 : decode cX12_round 184 = .ok (.putfield 172, 3) := by decide +kernel
theorem dX12_round_187 : decode cX12_round 187 = .ok (.lconst 0, 1) := by decide +kernel
theorem dX12_round_188 : decode cX12_round 188 = .ok (.lstore_n 2, 1) := by decide +kernel
theorem dX12_round_189 : decode cX12_round 189 = .ok (.iconst 0, 1) := by decide +kernel
theorem dX12_round_190 : decode cX12_round 190 = .ok (.istore 4, 2) := by decide +kernel
theorem dX12_round_192 : decode cX12_round 192 = .ok (.iload 4, 2) := by decide +kernel
theorem dX12_round_194 : decode cX12_round 194 = .ok (.aload_n 0, 1) := by decide +kernel
theorem dX12_round_195 : decode cX12_round 195 = .ok (.getfield 116, 3) := by decide +kernel
theorem dX12_round_198 : decode cX12_round 198 = .ok (.if_icmp .ge 46, 3) := by decide +kernel
theorem dX12_round_201 : decode cX12_round 201 = .ok (.aload_n 0, 1) := by decide +kernel
theorem dX12_round_202 : decode cX12_round 202 = .ok (.getfield 42, 3) := by decide +kernel
theorem dX12_round_205 : decode cX12_round 205 = .ok (.bipush 6, 2) := by decide +kernel
theorem dX12_round_207 : decode cX12_round 207 = .ok (.iaload, 1) := by decide +kernel
theorem dX12_round_208 : decode cX12_round 208 = .ok (.iconst (-1), 1) := by decide +kernel
theorem dX12_round_209 : decode cX12_round 209 = .ok (.if_icmp .eq 35, 3) := by decide +kernel
theorem dX12_round_212 : decode cX12_round 212 = .ok (.aload_n 0, 1) := by decide +kernel
theorem dX12_round_213 : decode cX12_round 213 = .ok (.invokevirtual 210, 3) := by decide +kernel
theorem dX12_round_216 : decode cX12_round 216 = .ok (.ifCond .ne 28, 3) := by decide +kernel
theorem dX12_round_219 : decode cX12_round 219 = .ok (.aload_n 0, 1) := by decide +kernel
theorem dX12_round_220 : decode cX12_round 220 = .ok (.bipush 6, 2) := by decide +kernel
theorem dX12_round_222 : decode cX12_round 222 = .ok (.iload 4, 2) := by decide +kernel
theorem dX12_round_224 : decode cX12_round 224 = .ok (.iconst (-1), 1) := by decide +kernel
theorem dX12_round_225 : decode cX12_round 225 = .ok (.invokevirtual 201, 3) := by decide +kernel
theorem dX12_round_228 : decode cX12_round 228 = .ok (.ifCond .eq 10, 3) := by decide +kernel
theorem dX12_round_231 : decode cX12_round 231 = .ok (.lload_n 2, 1) := by decide +kernel
theorem dX12_round_232 : decode cX12_round 232 = .ok (.aload_n 0, 1) := by decide +kernel
theorem dX12_round_233 : decode cX12_round 233 = .ok (.getfield 165, 3) := by decide +kernel
theorem dX12_round_236 : decode cX12_round 236 = .ok (.ladd, 1) := by decide +kernel
theorem dX12_round_237 : decode cX12_round 237 = .ok (.lstore_n 2, 1) := by decide +kernel
theorem dX12_round_238 : decode cX12_round 238 = .ok (.iinc 4 1, 3) := by decide +kernel
theorem dX12_round_241 : decode cX12_round 241 = .ok (.goto (-49), 3) := by decide +kernel
theorem dX12_round_244 : decode cX12_round 244 = .ok (.aload_n 0, 1) := by decide +kernel
theorem dX12_round_245 : decode cX12_round 245 = .ok (.invokevirtual 210, 3) := by decide +kernel
theorem dX12_round_248 : decode cX12_round 248 = .ok (.ifCond .eq 9, 3) := by decide +kernel
theorem dX12_round_251 : decode cX12_round 251 = .ok (.aload_n 0, 1) := by decide +kernel
theorem dX12_round_252 : decode cX12_round 252 = .ok (.invokevirtual 239, 3) := by decide +kernel
theorem dX12_round_255 : decode cX12_round 255 = .ok (.iconst 0, 1) := by decide +kernel
theorem dX12_round_256 : decode cX12_round 256 = .ok (.ireturn, 1) := by decide +kernel
theorem dX12_round_257 : decode cX12_round 257 = .ok (.aload_n 0, 1) := by decide +kernel
theorem dX12_round_258 : decode cX12_round 258 = .ok (.aload_n 0, 1) := by decide +kernel
theorem dX12_round_259 : decode cX12_round 259 = .ok (.getfield 182, 3) := by decide +kernel
theorem dX12_round_262 : decode cX12_round 262 = .ok (.aload_n 0, 1) := by decide +kernel
theorem dX12_round_263 : decode cX12_round 263 = .ok (.getfield 175, 3) := by decide +kernel
theorem dX12_round_266 : decode cX12_round 266 = .ok (.invokevirtual 242, 3) := by decide +kernel
theorem dX12_round_269 : decode cX12_round 269 = .ok (.aload_n 0, 1) := by decide +kernel
theorem dX12_round_270 : decode cX12_round 270 = .ok (.lload_n 2, 1) := by decide +kernel
theorem dX12_round_271 : decode cX12_round 271 = .ok (.putfield 182, 3) := by decide +kernel
theorem dX12_round_274 : decode cX12_round 274 = .ok (.aload_n 0, 1) := by decide +kernel
theorem dX12_round_275 : decode cX12_round 275 = .ok (.dup, 1) := by decide +kernel
theorem dX12_round_276 : decode cX12_round 276 = .ok (.getfield 175, 3) := by decide +kernel
theorem dX12_round_279 : decode cX12_round 279 = .ok (.iconst 1, 1) := by decide +kernel
theorem dX12_round_280 : decode cX12_round 280 = .ok (.iadd, 1) := by decide +kernel
theorem dX12_round_281 : decode cX12_round 281 = .ok (.putfield 175, 3) := by decide +kernel
theorem dX12_round_284 : decode cX12_round 284 = .ok (.aload_n 0, 1) := by decide +kernel
theorem dX12_round_285 : decode cX12_round 285 = .ok (.aload_n 0, 1) := by decide +kernel
theorem dX12_round_286 : decode cX12_round 286 = .ok (.getfield 214, 3) := by decide +kernel
theorem dX12_round_289 : decode cX12_round 289 = .ok (.putfield 246, 3) := by decide +kernel
theorem dX12_round_292 : decode cX12_round 292 = .ok (.iconst 0, 1) := by decide +kernel
theorem dX12_round_293 : decode cX12_round 293 = .ok (.istore 4, 2) := by decide +kernel
theorem dX12_round_295 : decode cX12_round 295 = .ok (.iload 4, 2) := by decide +kernel
theorem dX12_round_297 : decode cX12_round 297 = .ok (.aload_n 0, 1) := by decide +kernel
theorem dX12_round_298 : decode cX12_round 298 = .ok (.getfield 214, 3) := by decide +kernel
theorem dX12_round_301 : decode cX12_round 301 = .ok (.if_icmp .ge 42, 3) := by decide +kernel
theorem dX12_round_304 : decode cX12_round 304 = .ok (.aload_n 0, 1) := by decide +kernel
theorem dX12_round_305 : decode cX12_round 305 = .ok (.getfield 60, 3) := by decide +kernel
theorem dX12_round_308 : decode cX12_round 308 = .ok (.iload 4, 2) := by decide +kernel
theorem dX12_round_310 : decode cX12_round 310 = .ok (.aload_n 0, 1) := by decide +kernel
theorem dX12_round_311 : decode cX12_round 311 = .ok (.getfield 81, 3) := by decide +kernel
theorem dX12_round_314 : decode cX12_round 314 = .ok (.iload 4, 2) := by decide +kernel
theorem dX12_round_316 : decode cX12_round 316 = .ok (.iaload, 1) := by decide +kernel
theorem dX12_round_317 : decode cX12_round 317 = .ok (.iastore, 1) := by decide +kernel
theorem dX12_round_318 : decode cX12_round 318 = .ok (.aload_n 0, 1) := by decide +kernel
theorem dX12_round_319 : decode cX12_round 319 = .ok (.getfield 63, 3) := by decide +kernel
theorem dX12_round_322 : decode cX12_round 322 = .ok (.iload 4, 2) := by decide +kernel
theorem dX12_round_324 : decode cX12_round 324 = .ok (.aload_n 0, 1) := by decide +kernel
theorem dX12_round_325 : decode cX12_round 325 = .ok (.getfield 78, 3) := by decide +kernel
theorem dX12_round_328 : decode cX12_round 328 = .ok (.aload_n 0, 1) := by decide +kernel
theorem dX12_round_329 : decode cX12_round 329 = .ok (.getfield 81, 3) := by decide +kernel
theorem dX12_round_332 : decode cX12_round 332 = .ok (.iload 4, 2) := by decide +kernel
theorem dX12_round_334 : decode cX12_round 334 = .ok (.iaload, 1) := by decide +kernel
theorem dX12_round_335 : decode cX12_round 335 = .ok (.laload, 1) := by decide +kernel
theorem dX12_round_336 : decode cX12_round 336 = .ok (.lastore, 1) := by decide +kernel
theorem dX12_round_337 : decode cX12_round 337 = .ok (.iinc 4 1, 3) := by decide +kernel
theorem dX12_round_340 : decode cX12_round 340 = .ok (.goto (-45), 3) := by decide +kernel
theorem dX12_round_343 : decode cX12_round 343 = .ok (.iconst 1, 1) := by decide +kernel
theorem dX12_round_344 : decode cX12_round 344 = .ok (.ireturn, 1) := by decide +kernel
def rm_rX12_renew : Room := { frames := 4, cells := 0, slots := 0, locals := 98 }
def G_rX12_renew_b116 (p : Program) (l : Launch) (e : Env) (s : State) (m : MethodId) (args : Array Value) (below : List Frame) (meth : Method) (c : Code) (dC : Nat → ClassId) (dI : Nat → Nat → Nat) (kA : Nat → ClassId) (ad : Nat → Nat) (res : RS) (F : RS → Int32 → Int32 → Option (RS)) : Prop := ∀ (σ : RS) (s0 : Int32) (s1 : Int32), F σ s0 s1 = some res → ∀ (H : Heap) (locs : List Loc) (ls : Array Slot), va_P (dC, dI) vwCl (r_w kA ad σ) H → va_S (jw_A 32 ad) s.heap H locs → lv_has ls 3 [] → W p l e rm_rX12_renew s m args below meth c H locs 0 0 (r_Qu below dC dI kA ad args s res) (F0 m 116 ls [.int s0, .int s1, .ref (ad 26)])
def G_rX12_renew_b63 (p : Program) (l : Launch) (e : Env) (s : State) (m : MethodId) (args : Array Value) (below : List Frame) (meth : Method) (c : Code) (dC : Nat → ClassId) (dI : Nat → Nat → Nat) (kA : Nat → ClassId) (ad : Nat → Nat) (res : RS) (F : RS → Int32 → Option (RS)) : Prop := ∀ (σ : RS) (x1 : Int32), F σ x1 = some res → ∀ (H : Heap) (locs : List Loc) (ls : Array Slot), va_P (dC, dI) vwCl (r_w kA ad σ) H → va_S (jw_A 32 ad) s.heap H locs → lv_has ls 3 [(0, .ref (ad 0)), (1, .int x1)] → W p l e rm_rX12_renew s m args below meth c H locs 0 0 (r_Qu below dC dI kA ad args s res) (F0 m 63 ls [])
def G_rX12_renew_b57 (p : Program) (l : Launch) (e : Env) (s : State) (m : MethodId) (args : Array Value) (below : List Frame) (meth : Method) (c : Code) (dC : Nat → ClassId) (dI : Nat → Nat → Nat) (kA : Nat → ClassId) (ad : Nat → Nat) (res : RS) (F : RS → Int32 → Int32 → Option (RS)) : Prop := ∀ (σ : RS) (x1 : Int32) (x2 : Int32), F σ x1 x2 = some res → ∀ (H : Heap) (locs : List Loc) (ls : Array Slot), va_P (dC, dI) vwCl (r_w kA ad σ) H → va_S (jw_A 32 ad) s.heap H locs → lv_has ls 3 [(0, .ref (ad 0)), (1, .int x1), (2, .int x2)] → W p l e rm_rX12_renew s m args below meth c H locs 0 0 (r_Qu below dC dI kA ad args s res) (F0 m 57 ls [])
def G_rX12_renew_b7 (p : Program) (l : Launch) (e : Env) (s : State) (m : MethodId) (args : Array Value) (below : List Frame) (meth : Method) (c : Code) (dC : Nat → ClassId) (dI : Nat → Nat → Nat) (kA : Nat → ClassId) (ad : Nat → Nat) (res : RS) (F : RS → Int32 → Int32 → Option (RS)) : Prop := ∀ (σ : RS) (x1 : Int32) (x2 : Int32), F σ x1 x2 = some res → ∀ (H : Heap) (locs : List Loc) (ls : Array Slot), va_P (dC, dI) vwCl (r_w kA ad σ) H → va_S (jw_A 32 ad) s.heap H locs → lv_has ls 3 [(0, .ref (ad 0)), (1, .int x1), (2, .int x2)] → W p l e rm_rX12_renew s m args below meth c H locs 0 0 (r_Qu below dC dI kA ad args s res) (F0 m 7 ls [])
def G_rX12_renew (p : Program) (l : Launch) (e : Env) (s : State) (m : MethodId) (args : Array Value) (below : List Frame) (meth : Method) (c : Code) (dC : Nat → ClassId) (dI : Nat → Nat → Nat) (kA : Nat → ClassId) (ad : Nat → Nat) (res : RS) (F : RS → Int32 → Option (RS)) : Prop := ∀ (σ : RS) (x1 : Int32), F σ x1 = some res → ∀ (H : Heap) (locs : List Loc) (ls : Array Slot), va_P (dC, dI) vwCl (r_w kA ad σ) H → va_S (jw_A 32 ad) s.heap H locs → lv_has ls 3 [(0, .ref (ad 0)), (1, .int x1)] → W p l e rm_rX12_renew s m args below meth c H locs 0 0 (r_Qu below dC dI kA ad args s res) (F0 m 0 ls [])
def s_rX12_renew_b116 (σ : RS) (s0 : Int32) (s1 : Int32) : Option (RS) := kn_st (rs_A σ 16 (upd (rg_A σ 16) s1.toNatClampNeg (vp_nar .boolean s0))) 12 s1 (fun σ1 => some σ1)
set_option maxRecDepth 100000 in
set_option maxHeartbeats 4000000 in
theorem p_rX12_renew_b116 {p : Program} {l : Launch} {e : Env} {s : State} {m : MethodId} {args : Array Value} {below : List Frame} {meth : Method} {c : Code} {dC : Nat → ClassId} {dI : Nat → Nat → Nat} {kA : Nat → ClassId} {ad : Nat → Nat} (C : jxc cX12_renew none 3 RX12 p s m args meth c dC dI kA) (hap : jw_ap 32 ad) {res : RS} : G_rX12_renew_b116 p l e s m args below meth c dC dI kA ad res (s_rX12_renew_b116) := by
  obtain ⟨hx, hb, hml, hown, hts, hr, hlocks, hK, hN⟩ := id C
  intro σ s0 s1 hf H locs ls hP hS hl
  unfold s_rX12_renew_b116 at hf
  refine ja_zst hx hb hK (r_D hap σ) hP hS 26 2 rfl rfl rfl r_sA16 hf dX12_renew_116 (fun σ1 H locs hP hS hf => ?_)
  exact jr_u hx hb hr hlocks hf hP hS dX12_renew_117
def s_rX12_renew_b63 (σ : RS) (x1 : Int32) : Option (RS) := kn_st (rs_A σ 16 (upd (rg_A σ 16) x1.toNatClampNeg 1)) 12 x1 (fun σ1 => kn_i (s_rX12_isFailed σ1) (fun v2 σ3 => if v2 = 0 then (kn_ld (rg_A σ3 7) 7 5 (fun v4 => if v4 = (-1) then some σ3 else (kn_i (s_rX12_does σ3 5 x1 (-1)) (fun v5 σ6 => if v5 = 0 then some σ6 else (if (rg_L σ6 1) = 0 then (s_rX12_renew_b116 σ6 1 x1) else (s_rX12_renew_b116 σ6 0 x1)))))) else some σ3))
set_option maxRecDepth 100000 in
set_option maxHeartbeats 4000000 in
theorem p_rX12_renew_b63 {p : Program} {l : Launch} {e : Env} {s : State} {m : MethodId} {args : Array Value} {below : List Frame} {meth : Method} {c : Code} {dC : Nat → ClassId} {dI : Nat → Nat → Nat} {kA : Nat → ClassId} {ad : Nat → Nat} (C : jxc cX12_renew none 3 RX12 p s m args meth c dC dI kA) (hap : jw_ap 32 ad) {res : RS} : G_rX12_renew_b63 p l e s m args below meth c dC dI kA ad res (s_rX12_renew_b63) := by
  obtain ⟨hx, hb, hml, hown, hts, hr, hlocks, hK, hN⟩ := id C
  intro σ x1 hf H locs ls hP hS hl
  unfold s_rX12_renew_b63 at hf
  refine lv_aload_n hx hb dX12_renew_63 rfl (lv_at hl 0 rfl) ?_
  refine r_gX12_newAwake hx hb hts hown hK hP (hts _ kw_805) dX12_renew_64 ?_
  refine lv_iload_n hx hb dX12_renew_67 rfl (lv_at hl 1 rfl) ?_
  refine lv_iconst (v := 1) hx hb dX12_renew_68 (by decide) ?_
  refine ja_zst hx hb hK (r_D hap σ) hP hS 26 2 rfl rfl (by decide) r_sA16 hf dX12_renew_69 (fun σ1 H locs hP hS hf => ?_)
  refine lv_aload_n hx hb dX12_renew_70 rfl (lv_at hl 0 rfl) ?_
  refine jk_i hf (fun res hres => jv_run hx hb hml hown hts hK hN r_hG r_hNW hl.1 (n := 0) (As := []) (rest := []) (c_rX12_isFailed l hap σ1 res hres) hP (ci := 12) (q0 := 0) rfl rfl rfl kw_974 kw_971 kw_973 kw_28 kw_64 ⟨rfl, rfl⟩ (by decide +kernel) rfl ⟨Nat.le_of_ble_eq_true rfl, Nat.le_of_ble_eq_true rfl⟩ rfl (Nat.le_of_ble_eq_true rfl) dX12_renew_71) hS (fun v2 σ3 H locs hP hS hf => ?_)
  refine jb_ne (tgt := 117) hx hb hf dX12_renew_74 (by decide) (fun hf => ?_) (fun hf => ?_)
  · exact jr_u hx hb hr hlocks hf hP hS dX12_renew_117
  · refine lv_aload_n hx hb dX12_renew_77 rfl (lv_at hl 0 rfl) ?_
    refine r_gX12_acts hx hb hts hown hK hP (hts _ kw_772) dX12_renew_78 ?_
    refine lv_iconst (v := 5) hx hb dX12_renew_81 (by decide) ?_
    refine ja_ild hx hb hK hP 11 0 rfl rfl hf dX12_renew_82 (fun v4 hf => ?_)
    refine lv_iconst (v := (-1)) hx hb dX12_renew_83 (by decide) ?_
    refine jc_eq (tgt := 117) hx hb hf dX12_renew_84 (by decide) (fun hf => ?_) (fun hf => ?_)
    · exact jr_u hx hb hr hlocks hf hP hS dX12_renew_117
    · refine lv_aload_n hx hb dX12_renew_87 rfl (lv_at hl 0 rfl) ?_
      refine lv_iconst (v := 5) hx hb dX12_renew_88 (by decide) ?_
      refine lv_iload_n hx hb dX12_renew_89 rfl (lv_at hl 1 rfl) ?_
      refine lv_iconst (v := (-1)) hx hb dX12_renew_90 (by decide) ?_
      refine jk_i hf (fun res hres => jv_run hx hb hml hown hts hK hN r_hG r_hNW hl.1 (n := 3) (As := [.int 5, .int x1, .int (-1)]) (rest := []) (c_rX12_does l hap σ3 5 x1 (-1) res hres) hP (ci := 12) (q0 := 0) rfl rfl rfl kw_986 kw_983 kw_985 kw_31 kw_64 ⟨rfl, rfl⟩ (by decide +kernel) rfl ⟨Nat.le_of_ble_eq_true rfl, Nat.le_of_ble_eq_true rfl⟩ rfl (Nat.le_of_ble_eq_true rfl) dX12_renew_91) hS (fun v5 σ6 H locs hP hS hf => ?_)
      refine jb_eq (tgt := 117) hx hb hf dX12_renew_94 (by decide) (fun hf => ?_) (fun hf => ?_)
      · exact jr_u hx hb hr hlocks hf hP hS dX12_renew_117
      · refine lv_aload_n hx hb dX12_renew_97 rfl (lv_at hl 0 rfl) ?_
        refine r_gX12_newAwake hx hb hts hown hK hP (hts _ kw_805) dX12_renew_98 ?_
        refine lv_iload_n hx hb dX12_renew_101 rfl (lv_at hl 1 rfl) ?_
        refine lv_aload_n hx hb dX12_renew_102 rfl (lv_at hl 0 rfl) ?_
        refine r_gX12_came hx hb hts hown hK hP (hts _ kw_791) dX12_renew_103 ?_
        refine lv_lconst (v := 0) hx hb dX12_renew_106 (by decide) ?_
        refine jl_ne (tgt := 115) hx hb hf dX12_renew_107 dX12_renew_108 (by decide) (fun hf => ?_) (fun hf => ?_)
        · refine lv_iconst (v := 0) hx hb dX12_renew_115 (by decide) ?_
          exact (p_rX12_renew_b116 C hap) σ6 0 x1 hf H locs ls hP hS (lv_sub hl [] rfl)
        · refine lv_iconst (v := 1) hx hb dX12_renew_111 (by decide) ?_
          refine lv_goto (tgt := 116) hx hb dX12_renew_112 (by decide) ?_
          exact (p_rX12_renew_b116 C hap) σ6 1 x1 hf H locs ls hP hS (lv_sub hl [] rfl)
def s_rX12_renew_b57 (k7 : RS → Int32 → Int32 → Option (RS)) (σ : RS) (x1 : Int32) (x2 : Int32) : Option (RS) := kn_v (x2 + 1) (fun v1 => k7 σ x1 v1)
set_option maxRecDepth 100000 in
set_option maxHeartbeats 4000000 in
theorem p_rX12_renew_b57 {p : Program} {l : Launch} {e : Env} {s : State} {m : MethodId} {args : Array Value} {below : List Frame} {meth : Method} {c : Code} {dC : Nat → ClassId} {dI : Nat → Nat → Nat} {kA : Nat → ClassId} {ad : Nat → Nat} (C : jxc cX12_renew none 3 RX12 p s m args meth c dC dI kA) (hap : jw_ap 32 ad) {res : RS} {k7 : RS → Int32 → Int32 → Option (RS)} (hk7 : G_rX12_renew_b7 p l e s m args below meth c dC dI kA ad res k7) : G_rX12_renew_b57 p l e s m args below meth c dC dI kA ad res (s_rX12_renew_b57 k7) := by
  obtain ⟨hx, hb, hml, hown, hts, hr, hlocks, hK, hN⟩ := id C
  intro σ x1 x2 hf H locs ls hP hS hl
  unfold s_rX12_renew_b57 at hf
  obtain ⟨v1, e_v1, hf⟩ := kn_v_e hf
  refine lv_iinc (v := v1) (lv' := [(2, .int v1), (0, .ref (ad 0)), (1, .int x1)]) hx hb dX12_renew_57 hl (k := 2) rfl e_v1 (by decide) rfl (fun ls hl => ?_)
  refine lv_goto (tgt := 7) hx hb dX12_renew_60 (by decide) ?_
  exact hk7 σ x1 v1 hf H locs ls hP hS (lv_sub hl [1, 2, 0] rfl)
def s_rX12_renew_b7 (k7 : RS → Int32 → Int32 → Option (RS)) (σ : RS) (x1 : Int32) (x2 : Int32) : Option (RS) := if 3 ≤ x2 then (s_rX12_renew_b63 σ x1) else (kn_i (s_rX12_isFailed σ) (fun v1 σ2 => if v1 = 0 then (kn_ld (rg_A σ2 7) 7 (2 + x2) (fun v3 => if v3 = (-1) then (s_rX12_renew_b57 k7 σ2 x1 x2) else (kn_i (s_rX12_does σ2 (2 + x2) x1 (-1)) (fun v4 σ5 => if v4 = 0 then (s_rX12_renew_b57 k7 σ5 x1 x2) else (kn_st (rs_B σ5 8 (vp_updL (rg_B σ5 8) ((3 * x1) + x2).toNatClampNeg (rg_L σ5 1))) 36 ((3 * x1) + x2) (fun σ6 => s_rX12_renew_b57 k7 σ6 x1 x2)))))) else (s_rX12_renew_b63 σ2 x1)))
set_option maxRecDepth 100000 in
set_option maxHeartbeats 4000000 in
theorem p_rX12_renew_b7 {p : Program} {l : Launch} {e : Env} {s : State} {m : MethodId} {args : Array Value} {below : List Frame} {meth : Method} {c : Code} {dC : Nat → ClassId} {dI : Nat → Nat → Nat} {kA : Nat → ClassId} {ad : Nat → Nat} (C : jxc cX12_renew none 3 RX12 p s m args meth c dC dI kA) (hap : jw_ap 32 ad) {res : RS} {k7 : RS → Int32 → Int32 → Option (RS)} (hk7 : G_rX12_renew_b7 p l e s m args below meth c dC dI kA ad res k7) : G_rX12_renew_b7 p l e s m args below meth c dC dI kA ad res (s_rX12_renew_b7 k7) := by
  obtain ⟨hx, hb, hml, hown, hts, hr, hlocks, hK, hN⟩ := id C
  intro σ x1 x2 hf H locs ls hP hS hl
  unfold s_rX12_renew_b7 at hf
  refine lv_iload_n hx hb dX12_renew_7 rfl (lv_at hl 2 rfl) ?_
  refine lv_iconst (v := 3) hx hb dX12_renew_8 (by decide) ?_
  refine jc_ge (tgt := 63) hx hb hf dX12_renew_9 (by decide) (fun hf => ?_) (fun hf => ?_)
  · exact (p_rX12_renew_b63 C hap) σ x1 hf H locs ls hP hS (lv_sub hl [0, 1] rfl)
  · refine lv_aload_n hx hb dX12_renew_12 rfl (lv_at hl 0 rfl) ?_
    refine jk_i hf (fun res hres => jv_run hx hb hml hown hts hK hN r_hG r_hNW hl.1 (n := 0) (As := []) (rest := []) (c_rX12_isFailed l hap σ res hres) hP (ci := 12) (q0 := 0) rfl rfl rfl kw_974 kw_971 kw_973 kw_28 kw_64 ⟨rfl, rfl⟩ (by decide +kernel) rfl ⟨Nat.le_of_ble_eq_true rfl, Nat.le_of_ble_eq_true rfl⟩ rfl (Nat.le_of_ble_eq_true rfl) dX12_renew_13) hS (fun v1 σ2 H locs hP hS hf => ?_)
    refine jb_ne (tgt := 63) hx hb hf dX12_renew_16 (by decide) (fun hf => ?_) (fun hf => ?_)
    · exact (p_rX12_renew_b63 C hap) σ2 x1 hf H locs ls hP hS (lv_sub hl [0, 1] rfl)
    · refine lv_aload_n hx hb dX12_renew_19 rfl (lv_at hl 0 rfl) ?_
      refine r_gX12_acts hx hb hts hown hK hP (hts _ kw_772) dX12_renew_20 ?_
      refine lv_iconst (v := 2) hx hb dX12_renew_23 (by decide) ?_
      refine lv_iload_n hx hb dX12_renew_24 rfl (lv_at hl 2 rfl) ?_
      refine lv_iadd hx hb dX12_renew_25 ?_
      refine ja_ild hx hb hK hP 11 0 rfl rfl hf dX12_renew_26 (fun v3 hf => ?_)
      refine lv_iconst (v := (-1)) hx hb dX12_renew_27 (by decide) ?_
      refine jc_eq (tgt := 57) hx hb hf dX12_renew_28 (by decide) (fun hf => ?_) (fun hf => ?_)
      · exact (p_rX12_renew_b57 C hap hk7) σ2 x1 x2 hf H locs ls hP hS (lv_sub hl [0, 1, 2] rfl)
      · refine lv_aload_n hx hb dX12_renew_31 rfl (lv_at hl 0 rfl) ?_
        refine lv_iconst (v := 2) hx hb dX12_renew_32 (by decide) ?_
        refine lv_iload_n hx hb dX12_renew_33 rfl (lv_at hl 2 rfl) ?_
        refine lv_iadd hx hb dX12_renew_34 ?_
        refine lv_iload_n hx hb dX12_renew_35 rfl (lv_at hl 1 rfl) ?_
        refine lv_iconst (v := (-1)) hx hb dX12_renew_36 (by decide) ?_
        refine jk_i hf (fun res hres => jv_run hx hb hml hown hts hK hN r_hG r_hNW hl.1 (n := 3) (As := [.int (2 + x2), .int x1, .int (-1)]) (rest := []) (c_rX12_does l hap σ2 (2 + x2) x1 (-1) res hres) hP (ci := 12) (q0 := 0) rfl rfl rfl kw_986 kw_983 kw_985 kw_31 kw_64 ⟨rfl, rfl⟩ (by decide +kernel) rfl ⟨Nat.le_of_ble_eq_true rfl, Nat.le_of_ble_eq_true rfl⟩ rfl (Nat.le_of_ble_eq_true rfl) dX12_renew_37) hS (fun v4 σ5 H locs hP hS hf => ?_)
        refine jb_eq (tgt := 57) hx hb hf dX12_renew_40 (by decide) (fun hf => ?_) (fun hf => ?_)
        · exact (p_rX12_renew_b57 C hap hk7) σ5 x1 x2 hf H locs ls hP hS (lv_sub hl [0, 1, 2] rfl)
        · refine lv_aload_n hx hb dX12_renew_43 rfl (lv_at hl 0 rfl) ?_
          refine r_gX12_newStates hx hb hts hown hK hP (hts _ kw_804) dX12_renew_44 ?_
          refine lv_iconst (v := 3) hx hb dX12_renew_47 (by decide) ?_
          refine lv_iload_n hx hb dX12_renew_48 rfl (lv_at hl 1 rfl) ?_
          refine lv_imul hx hb dX12_renew_49 ?_
          refine lv_iload_n hx hb dX12_renew_50 rfl (lv_at hl 2 rfl) ?_
          refine lv_iadd hx hb dX12_renew_51 ?_
          refine lv_aload_n hx hb dX12_renew_52 rfl (lv_at hl 0 rfl) ?_
          refine r_gX12_came hx hb hts hown hK hP (hts _ kw_791) dX12_renew_53 ?_
          refine ja_lst hx hb hK (r_D hap σ5) hP hS 25 1 rfl rfl r_sB8 hf dX12_renew_56 (fun σ6 H locs hP hS hf => ?_)
          exact (p_rX12_renew_b57 C hap hk7) σ6 x1 x2 hf H locs ls hP hS (lv_sub hl [0, 1, 2] rfl)
def f_rX12_renew_b7 : RS → Int32 → Int32 → Option (RS) := kn_fix (fun _ _ _ => none) (s_rX12_renew_b7) FU
theorem q_rX12_renew_b7 {p : Program} {l : Launch} {e : Env} {s : State} {m : MethodId} {args : Array Value} {below : List Frame} {meth : Method} {c : Code} {dC : Nat → ClassId} {dI : Nat → Nat → Nat} {kA : Nat → ClassId} {ad : Nat → Nat} (C : jxc cX12_renew none 3 RX12 p s m args meth c dC dI kA) (hap : jw_ap 32 ad) {res : RS} : G_rX12_renew_b7 p l e s m args below meth c dC dI kA ad res (f_rX12_renew_b7) := kn_fix_ind (G := fun F => G_rX12_renew_b7 p l e s m args below meth c dC dI kA ad res F) (fun _ _ _ hf => by cases hf) (fun k7 hk7 => p_rX12_renew_b7 C hap hk7) FU
def s_rX12_renew (σ : RS) (x1 : Int32) : Option (RS) := kn_u (s_rX12_foldFor σ x1) (fun σ2 => f_rX12_renew_b7 σ2 x1 0)
set_option maxRecDepth 100000 in
set_option maxHeartbeats 4000000 in
theorem p_rX12_renew {p : Program} {l : Launch} {e : Env} {s : State} {m : MethodId} {args : Array Value} {below : List Frame} {meth : Method} {c : Code} {dC : Nat → ClassId} {dI : Nat → Nat → Nat} {kA : Nat → ClassId} {ad : Nat → Nat} (C : jxc cX12_renew none 3 RX12 p s m args meth c dC dI kA) (hap : jw_ap 32 ad) {res : RS} : G_rX12_renew p l e s m args below meth c dC dI kA ad res (s_rX12_renew) := by
  obtain ⟨hx, hb, hml, hown, hts, hr, hlocks, hK, hN⟩ := id C
  intro σ x1 hf H locs ls hP hS hl
  unfold s_rX12_renew at hf
  refine lv_aload_n hx hb dX12_renew_0 rfl (lv_at hl 0 rfl) ?_
  refine lv_iload_n hx hb dX12_renew_1 rfl (lv_at hl 1 rfl) ?_
  refine jk_u hf (fun res hres => jv_run hx hb hml hown hts hK hN r_hG r_hNW hl.1 (n := 1) (As := [.int x1]) (rest := []) (c_rX12_foldFor l hap σ x1 res hres) hP (ci := 12) (q0 := 0) rfl rfl rfl kw_1050 kw_1047 kw_1049 kw_47 kw_64 ⟨rfl, rfl⟩ (by decide +kernel) rfl ⟨Nat.le_of_ble_eq_true rfl, Nat.le_of_ble_eq_true rfl⟩ rfl (Nat.le_of_ble_eq_true rfl) dX12_renew_2) hS (fun σ2 H locs hP hS hf => ?_)
  refine lv_iconst (v := 0) hx hb dX12_renew_5 (by decide) ?_
  refine lv_istore_n (lv' := [(2, .int 0), (0, .ref (ad 0)), (1, .int x1)]) hx hb dX12_renew_6 rfl hl (by decide) rfl (fun ls hl => ?_)
  exact (q_rX12_renew_b7 C hap) σ2 x1 0 hf H locs ls hP hS (lv_sub hl [1, 2, 0] rfl)
theorem c_rX12_renew (l : Launch) {dC : Nat → ClassId} {dI : Nat → Nat → Nat} {kA : Nat → ClassId} {ad : Nat → Nat} (hap : jw_ap 32 ad) (σ : RS) (x1 : Int32) (res : RS) (hf : s_rX12_renew σ x1 = some res) : jm_u l KW NW (dC, dI) vwCl (jtys kA) (jw_A 32 ad) (r_w kA ad) yX12_renew cX12_renew 3 (rm_rX12_renew) [.ref (ad 0), .int x1] σ res := jm_u_of (by decide) (Nat.le_of_ble_eq_true rfl) (fun p e s m below meth c C hP hS ls hl => p_rX12_renew C hap σ x1 hf s.heap [] ls hP hS hl)

def rm_rX12_round : Room := { frames := 7, cells := 0, slots := 0, locals := 164 }
def G_rX12_round_b295 (p : Program) (l : Launch) (e : Env) (s : State) (m : MethodId) (args : Array Value) (below : List Frame) (meth : Method) (c : Code) (dC : Nat → ClassId) (dI : Nat → Nat → Nat) (kA : Nat → ClassId) (ad : Nat → Nat) (res : Int32 × RS) (F : RS → Int32 → Option (Int32 × RS)) : Prop := ∀ (σ : RS) (x4 : Int32), F σ x4 = some res → ∀ (H : Heap) (locs : List Loc) (ls : Array Slot), va_P (dC, dI) vwCl (r_w kA ad σ) H → va_S (jw_A 32 ad) s.heap H locs → lv_has ls 5 [(0, .ref (ad 0)), (4, .int x4)] → W p l e rm_rX12_round s m args below meth c H locs 0 0 (r_Qi below dC dI kA ad args s res) (F0 m 295 ls [])
def G_rX12_round_b244 (p : Program) (l : Launch) (e : Env) (s : State) (m : MethodId) (args : Array Value) (below : List Frame) (meth : Method) (c : Code) (dC : Nat → ClassId) (dI : Nat → Nat → Nat) (kA : Nat → ClassId) (ad : Nat → Nat) (res : Int32 × RS) (F : RS → Int64 → Option (Int32 × RS)) : Prop := ∀ (σ : RS) (x2 : Int64), F σ x2 = some res → ∀ (H : Heap) (locs : List Loc) (ls : Array Slot), va_P (dC, dI) vwCl (r_w kA ad σ) H → va_S (jw_A 32 ad) s.heap H locs → lv_has ls 5 [(0, .ref (ad 0)), (2, .long x2)] → W p l e rm_rX12_round s m args below meth c H locs 0 0 (r_Qi below dC dI kA ad args s res) (F0 m 244 ls [])
def G_rX12_round_b238 (p : Program) (l : Launch) (e : Env) (s : State) (m : MethodId) (args : Array Value) (below : List Frame) (meth : Method) (c : Code) (dC : Nat → ClassId) (dI : Nat → Nat → Nat) (kA : Nat → ClassId) (ad : Nat → Nat) (res : Int32 × RS) (F : RS → Int64 → Int32 → Option (Int32 × RS)) : Prop := ∀ (σ : RS) (x2 : Int64) (x4 : Int32), F σ x2 x4 = some res → ∀ (H : Heap) (locs : List Loc) (ls : Array Slot), va_P (dC, dI) vwCl (r_w kA ad σ) H → va_S (jw_A 32 ad) s.heap H locs → lv_has ls 5 [(0, .ref (ad 0)), (2, .long x2), (4, .int x4)] → W p l e rm_rX12_round s m args below meth c H locs 0 0 (r_Qi below dC dI kA ad args s res) (F0 m 238 ls [])
def G_rX12_round_b192 (p : Program) (l : Launch) (e : Env) (s : State) (m : MethodId) (args : Array Value) (below : List Frame) (meth : Method) (c : Code) (dC : Nat → ClassId) (dI : Nat → Nat → Nat) (kA : Nat → ClassId) (ad : Nat → Nat) (res : Int32 × RS) (F : RS → Int64 → Int32 → Option (Int32 × RS)) : Prop := ∀ (σ : RS) (x2 : Int64) (x4 : Int32), F σ x2 x4 = some res → ∀ (H : Heap) (locs : List Loc) (ls : Array Slot), va_P (dC, dI) vwCl (r_w kA ad σ) H → va_S (jw_A 32 ad) s.heap H locs → lv_has ls 5 [(0, .ref (ad 0)), (2, .long x2), (4, .int x4)] → W p l e rm_rX12_round s m args below meth c H locs 0 0 (r_Qi below dC dI kA ad args s res) (F0 m 192 ls [])
def G_rX12_round_b177 (p : Program) (l : Launch) (e : Env) (s : State) (m : MethodId) (args : Array Value) (below : List Frame) (meth : Method) (c : Code) (dC : Nat → ClassId) (dI : Nat → Nat → Nat) (kA : Nat → ClassId) (ad : Nat → Nat) (res : Int32 × RS) (F : RS → Option (Int32 × RS)) : Prop := ∀ (σ : RS), F σ = some res → ∀ (H : Heap) (locs : List Loc) (ls : Array Slot), va_P (dC, dI) vwCl (r_w kA ad σ) H → va_S (jw_A 32 ad) s.heap H locs → lv_has ls 5 [(0, .ref (ad 0))] → W p l e rm_rX12_round s m args below meth c H locs 0 0 (r_Qi below dC dI kA ad args s res) (F0 m 177 ls [])
def G_rX12_round_b151 (p : Program) (l : Launch) (e : Env) (s : State) (m : MethodId) (args : Array Value) (below : List Frame) (meth : Method) (c : Code) (dC : Nat → ClassId) (dI : Nat → Nat → Nat) (kA : Nat → ClassId) (ad : Nat → Nat) (res : Int32 × RS) (F : RS → Int32 → Option (Int32 × RS)) : Prop := ∀ (σ : RS) (x2 : Int32), F σ x2 = some res → ∀ (H : Heap) (locs : List Loc) (ls : Array Slot), va_P (dC, dI) vwCl (r_w kA ad σ) H → va_S (jw_A 32 ad) s.heap H locs → lv_has ls 5 [(0, .ref (ad 0)), (2, .int x2)] → W p l e rm_rX12_round s m args below meth c H locs 0 0 (r_Qi below dC dI kA ad args s res) (F0 m 151 ls [])
def G_rX12_round_b149 (p : Program) (l : Launch) (e : Env) (s : State) (m : MethodId) (args : Array Value) (below : List Frame) (meth : Method) (c : Code) (dC : Nat → ClassId) (dI : Nat → Nat → Nat) (kA : Nat → ClassId) (ad : Nat → Nat) (res : Int32 × RS) (F : RS → Option (Int32 × RS)) : Prop := ∀ (σ : RS), F σ = some res → ∀ (H : Heap) (locs : List Loc) (ls : Array Slot), va_P (dC, dI) vwCl (r_w kA ad σ) H → va_S (jw_A 32 ad) s.heap H locs → lv_has ls 5 [(0, .ref (ad 0))] → W p l e rm_rX12_round s m args below meth c H locs 0 0 (r_Qi below dC dI kA ad args s res) (F0 m 149 ls [])
def G_rX12_round_b125 (p : Program) (l : Launch) (e : Env) (s : State) (m : MethodId) (args : Array Value) (below : List Frame) (meth : Method) (c : Code) (dC : Nat → ClassId) (dI : Nat → Nat → Nat) (kA : Nat → ClassId) (ad : Nat → Nat) (res : Int32 × RS) (F : RS → Int32 → Option (Int32 × RS)) : Prop := ∀ (σ : RS) (x2 : Int32), F σ x2 = some res → ∀ (H : Heap) (locs : List Loc) (ls : Array Slot), va_P (dC, dI) vwCl (r_w kA ad σ) H → va_S (jw_A 32 ad) s.heap H locs → lv_has ls 5 [(0, .ref (ad 0)), (2, .int x2)] → W p l e rm_rX12_round s m args below meth c H locs 0 0 (r_Qi below dC dI kA ad args s res) (F0 m 125 ls [])
def G_rX12_round_b114 (p : Program) (l : Launch) (e : Env) (s : State) (m : MethodId) (args : Array Value) (below : List Frame) (meth : Method) (c : Code) (dC : Nat → ClassId) (dI : Nat → Nat → Nat) (kA : Nat → ClassId) (ad : Nat → Nat) (res : Int32 × RS) (F : RS → Option (Int32 × RS)) : Prop := ∀ (σ : RS), F σ = some res → ∀ (H : Heap) (locs : List Loc) (ls : Array Slot), va_P (dC, dI) vwCl (r_w kA ad σ) H → va_S (jw_A 32 ad) s.heap H locs → lv_has ls 5 [(0, .ref (ad 0))] → W p l e rm_rX12_round s m args below meth c H locs 0 0 (r_Qi below dC dI kA ad args s res) (F0 m 114 ls [])
def G_rX12_round_b108 (p : Program) (l : Launch) (e : Env) (s : State) (m : MethodId) (args : Array Value) (below : List Frame) (meth : Method) (c : Code) (dC : Nat → ClassId) (dI : Nat → Nat → Nat) (kA : Nat → ClassId) (ad : Nat → Nat) (res : Int32 × RS) (F : RS → Int32 → Option (Int32 × RS)) : Prop := ∀ (σ : RS) (x2 : Int32), F σ x2 = some res → ∀ (H : Heap) (locs : List Loc) (ls : Array Slot), va_P (dC, dI) vwCl (r_w kA ad σ) H → va_S (jw_A 32 ad) s.heap H locs → lv_has ls 5 [(0, .ref (ad 0)), (2, .int x2)] → W p l e rm_rX12_round s m args below meth c H locs 0 0 (r_Qi below dC dI kA ad args s res) (F0 m 108 ls [])
def G_rX12_round_b80 (p : Program) (l : Launch) (e : Env) (s : State) (m : MethodId) (args : Array Value) (below : List Frame) (meth : Method) (c : Code) (dC : Nat → ClassId) (dI : Nat → Nat → Nat) (kA : Nat → ClassId) (ad : Nat → Nat) (res : Int32 × RS) (F : RS → Int32 → Option (Int32 × RS)) : Prop := ∀ (σ : RS) (x2 : Int32), F σ x2 = some res → ∀ (H : Heap) (locs : List Loc) (ls : Array Slot), va_P (dC, dI) vwCl (r_w kA ad σ) H → va_S (jw_A 32 ad) s.heap H locs → lv_has ls 5 [(0, .ref (ad 0)), (2, .int x2)] → W p l e rm_rX12_round s m args below meth c H locs 0 0 (r_Qi below dC dI kA ad args s res) (F0 m 80 ls [])
def G_rX12_round_b78 (p : Program) (l : Launch) (e : Env) (s : State) (m : MethodId) (args : Array Value) (below : List Frame) (meth : Method) (c : Code) (dC : Nat → ClassId) (dI : Nat → Nat → Nat) (kA : Nat → ClassId) (ad : Nat → Nat) (res : Int32 × RS) (F : RS → Option (Int32 × RS)) : Prop := ∀ (σ : RS), F σ = some res → ∀ (H : Heap) (locs : List Loc) (ls : Array Slot), va_P (dC, dI) vwCl (r_w kA ad σ) H → va_S (jw_A 32 ad) s.heap H locs → lv_has ls 5 [(0, .ref (ad 0))] → W p l e rm_rX12_round s m args below meth c H locs 0 0 (r_Qi below dC dI kA ad args s res) (F0 m 78 ls [])
def G_rX12_round_b52 (p : Program) (l : Launch) (e : Env) (s : State) (m : MethodId) (args : Array Value) (below : List Frame) (meth : Method) (c : Code) (dC : Nat → ClassId) (dI : Nat → Nat → Nat) (kA : Nat → ClassId) (ad : Nat → Nat) (res : Int32 × RS) (F : RS → Int32 → Option (Int32 × RS)) : Prop := ∀ (σ : RS) (x2 : Int32), F σ x2 = some res → ∀ (H : Heap) (locs : List Loc) (ls : Array Slot), va_P (dC, dI) vwCl (r_w kA ad σ) H → va_S (jw_A 32 ad) s.heap H locs → lv_has ls 5 [(0, .ref (ad 0)), (2, .int x2)] → W p l e rm_rX12_round s m args below meth c H locs 0 0 (r_Qi below dC dI kA ad args s res) (F0 m 52 ls [])
def G_rX12_round_b50 (p : Program) (l : Launch) (e : Env) (s : State) (m : MethodId) (args : Array Value) (below : List Frame) (meth : Method) (c : Code) (dC : Nat → ClassId) (dI : Nat → Nat → Nat) (kA : Nat → ClassId) (ad : Nat → Nat) (res : Int32 × RS) (F : RS → Option (Int32 × RS)) : Prop := ∀ (σ : RS), F σ = some res → ∀ (H : Heap) (locs : List Loc) (ls : Array Slot), va_P (dC, dI) vwCl (r_w kA ad σ) H → va_S (jw_A 32 ad) s.heap H locs → lv_has ls 5 [(0, .ref (ad 0))] → W p l e rm_rX12_round s m args below meth c H locs 0 0 (r_Qi below dC dI kA ad args s res) (F0 m 50 ls [])
def G_rX12_round_b26 (p : Program) (l : Launch) (e : Env) (s : State) (m : MethodId) (args : Array Value) (below : List Frame) (meth : Method) (c : Code) (dC : Nat → ClassId) (dI : Nat → Nat → Nat) (kA : Nat → ClassId) (ad : Nat → Nat) (res : Int32 × RS) (F : RS → Int32 → Option (Int32 × RS)) : Prop := ∀ (σ : RS) (x2 : Int32), F σ x2 = some res → ∀ (H : Heap) (locs : List Loc) (ls : Array Slot), va_P (dC, dI) vwCl (r_w kA ad σ) H → va_S (jw_A 32 ad) s.heap H locs → lv_has ls 5 [(0, .ref (ad 0)), (2, .int x2)] → W p l e rm_rX12_round s m args below meth c H locs 0 0 (r_Qi below dC dI kA ad args s res) (F0 m 26 ls [])
def G_rX12_round (p : Program) (l : Launch) (e : Env) (s : State) (m : MethodId) (args : Array Value) (below : List Frame) (meth : Method) (c : Code) (dC : Nat → ClassId) (dI : Nat → Nat → Nat) (kA : Nat → ClassId) (ad : Nat → Nat) (res : Int32 × RS) (F : RS → Int32 → Option (Int32 × RS)) : Prop := ∀ (σ : RS) (x1 : Int32), F σ x1 = some res → ∀ (H : Heap) (locs : List Loc) (ls : Array Slot), va_P (dC, dI) vwCl (r_w kA ad σ) H → va_S (jw_A 32 ad) s.heap H locs → lv_has ls 5 [(0, .ref (ad 0)), (1, .int x1)] → W p l e rm_rX12_round s m args below meth c H locs 0 0 (r_Qi below dC dI kA ad args s res) (F0 m 0 ls [])
def s_rX12_round_b295 (k295 : RS → Int32 → Option (Int32 × RS)) (σ : RS) (x4 : Int32) : Option (Int32 × RS) := if (rg_I σ 15) ≤ x4 then (some (1, σ)) else (kn_ld (rg_A σ 15) 40 x4 (fun v1 => kn_st (rs_A σ 11 (upd (rg_A σ 11) x4.toNatClampNeg v1)) 200 x4 (fun σ2 => kn_ld (rg_A σ2 15) 40 x4 (fun v3 => kn_ld (rg_B σ2 7) 40 v3 (fun v4 => kn_st (rs_B σ2 5 (vp_updL (rg_B σ2 5) x4.toNatClampNeg v4)) 200 x4 (fun σ5 => kn_v (x4 + 1) (fun v6 => k295 σ5 v6)))))))
set_option maxRecDepth 100000 in
set_option maxHeartbeats 4000000 in
theorem p_rX12_round_b295 {p : Program} {l : Launch} {e : Env} {s : State} {m : MethodId} {args : Array Value} {below : List Frame} {meth : Method} {c : Code} {dC : Nat → ClassId} {dI : Nat → Nat → Nat} {kA : Nat → ClassId} {ad : Nat → Nat} (C : jxc cX12_round (some .boolean) 5 RX12 p s m args meth c dC dI kA) (hap : jw_ap 32 ad) {res : Int32 × RS} {k295 : RS → Int32 → Option (Int32 × RS)} (hk295 : G_rX12_round_b295 p l e s m args below meth c dC dI kA ad res k295) : G_rX12_round_b295 p l e s m args below meth c dC dI kA ad res (s_rX12_round_b295 k295) := by
  obtain ⟨hx, hb, hml, hown, hts, hr, hlocks, hK, hN⟩ := id C
  intro σ x4 hf H locs ls hP hS hl
  unfold s_rX12_round_b295 at hf
  refine lv_iload hx hb dX12_round_295 (lv_at hl 1 rfl) ?_
  refine lv_aload_n hx hb dX12_round_297 rfl (lv_at hl 0 rfl) ?_
  refine r_gX12_sent hx hb hts hown hK hP (hts _ kw_800) dX12_round_298 ?_
  refine jc_ge (tgt := 343) hx hb hf dX12_round_301 (by decide) (fun hf => ?_) (fun hf => ?_)
  · refine lv_iconst (v := 1) hx hb dX12_round_343 (by decide) ?_
    exact jr_i hx hb hr hlocks hf (by decide) hP hS dX12_round_344
  · refine lv_aload_n hx hb dX12_round_304 rfl (lv_at hl 0 rfl) ?_
    refine r_gX12_toldArcs hx hb hts hown hK hP (hts _ kw_785) dX12_round_305 ?_
    refine lv_iload hx hb dX12_round_308 (lv_at hl 1 rfl) ?_
    refine lv_aload_n hx hb dX12_round_310 rfl (lv_at hl 0 rfl) ?_
    refine r_gX12_sentArcs hx hb hts hown hK hP (hts _ kw_801) dX12_round_311 ?_
    refine lv_iload hx hb dX12_round_314 (lv_at hl 1 rfl) ?_
    refine ja_ild hx hb hK hP 24 0 rfl rfl hf dX12_round_316 (fun v1 hf => ?_)
    refine ja_ist hx hb hK (r_D hap σ) hP hS 17 0 rfl rfl r_sA11 hf dX12_round_317 (fun σ2 H locs hP hS hf => ?_)
    refine lv_aload_n hx hb dX12_round_318 rfl (lv_at hl 0 rfl) ?_
    refine r_gX12_toldMessages hx hb hts hown hK hP (hts _ kw_786) dX12_round_319 ?_
    refine lv_iload hx hb dX12_round_322 (lv_at hl 1 rfl) ?_
    refine lv_aload_n hx hb dX12_round_324 rfl (lv_at hl 0 rfl) ?_
    refine r_gX12_messages hx hb hts hown hK hP (hts _ kw_799) dX12_round_325 ?_
    refine lv_aload_n hx hb dX12_round_328 rfl (lv_at hl 0 rfl) ?_
    refine r_gX12_sentArcs hx hb hts hown hK hP (hts _ kw_801) dX12_round_329 ?_
    refine lv_iload hx hb dX12_round_332 (lv_at hl 1 rfl) ?_
    refine ja_ild hx hb hK hP 24 0 rfl rfl hf dX12_round_334 (fun v3 hf => ?_)
    refine ja_lld hx hb hK hP 23 1 rfl rfl hf dX12_round_335 (fun v4 hf => ?_)
    refine ja_lst hx hb hK (r_D hap σ2) hP hS 18 1 rfl rfl r_sB5 hf dX12_round_336 (fun σ5 H locs hP hS hf => ?_)
    obtain ⟨v6, e_v6, hf⟩ := kn_v_e hf
    refine lv_iinc (v := v6) (lv' := [(4, .int v6), (0, .ref (ad 0))]) hx hb dX12_round_337 hl (k := 1) rfl e_v6 (by decide) rfl (fun ls hl => ?_)
    refine lv_goto (tgt := 295) hx hb dX12_round_340 (by decide) ?_
    exact hk295 σ5 v6 hf H locs ls hP hS (lv_sub hl [1, 0] rfl)
def f_rX12_round_b295 : RS → Int32 → Option (Int32 × RS) := kn_fix (fun _ _ => none) (s_rX12_round_b295) FU
theorem q_rX12_round_b295 {p : Program} {l : Launch} {e : Env} {s : State} {m : MethodId} {args : Array Value} {below : List Frame} {meth : Method} {c : Code} {dC : Nat → ClassId} {dI : Nat → Nat → Nat} {kA : Nat → ClassId} {ad : Nat → Nat} (C : jxc cX12_round (some .boolean) 5 RX12 p s m args meth c dC dI kA) (hap : jw_ap 32 ad) {res : Int32 × RS} : G_rX12_round_b295 p l e s m args below meth c dC dI kA ad res (f_rX12_round_b295) := kn_fix_ind (G := fun F => G_rX12_round_b295 p l e s m args below meth c dC dI kA ad res F) (fun _ _ hf => by cases hf) (fun k295 hk295 => p_rX12_round_b295 C hap hk295) FU
def s_rX12_round_b244 (σ : RS) (x2 : Int64) : Option (Int32 × RS) := kn_i (s_rX12_isFailed σ) (fun v1 σ2 => if v1 = 0 then (kn_u (s_rX12_keep σ2 (rg_L σ2 0) (rg_I σ2 4)) (fun σ4 => kn_v (rs_L σ4 0 x2) (fun σ5 => kn_v (rs_I σ5 4 ((rg_I σ5 4) + 1)) (fun σ6 => kn_v (rs_I σ6 8 (rg_I σ6 15)) (fun σ7 => f_rX12_round_b295 σ7 0))))) else (kn_u (s_rX12_asBefore σ2) (fun σ9 => some (0, σ9))))
set_option maxRecDepth 100000 in
set_option maxHeartbeats 4000000 in
theorem p_rX12_round_b244 {p : Program} {l : Launch} {e : Env} {s : State} {m : MethodId} {args : Array Value} {below : List Frame} {meth : Method} {c : Code} {dC : Nat → ClassId} {dI : Nat → Nat → Nat} {kA : Nat → ClassId} {ad : Nat → Nat} (C : jxc cX12_round (some .boolean) 5 RX12 p s m args meth c dC dI kA) (hap : jw_ap 32 ad) {res : Int32 × RS} : G_rX12_round_b244 p l e s m args below meth c dC dI kA ad res (s_rX12_round_b244) := by
  obtain ⟨hx, hb, hml, hown, hts, hr, hlocks, hK, hN⟩ := id C
  intro σ x2 hf H locs ls hP hS hl
  unfold s_rX12_round_b244 at hf
  refine lv_aload_n hx hb dX12_round_244 rfl (lv_at hl 0 rfl) ?_
  refine jk_i hf (fun res hres => jv_run hx hb hml hown hts hK hN r_hG r_hNW hl.1 (n := 0) (As := []) (rest := []) (c_rX12_isFailed l hap σ res hres) hP (ci := 12) (q0 := 0) rfl rfl rfl kw_974 kw_971 kw_973 kw_28 kw_64 ⟨rfl, rfl⟩ (by decide +kernel) rfl ⟨Nat.le_of_ble_eq_true rfl, Nat.le_of_ble_eq_true rfl⟩ rfl (Nat.le_of_ble_eq_true rfl) dX12_round_245) hS (fun v1 σ2 H locs hP hS hf => ?_)
  refine jb_eq (tgt := 257) hx hb hf dX12_round_248 (by decide) (fun hf => ?_) (fun hf => ?_)
  · refine lv_aload_n hx hb dX12_round_257 rfl (lv_at hl 0 rfl) ?_
    refine lv_aload_n hx hb dX12_round_258 rfl (lv_at hl 0 rfl) ?_
    refine r_gX12_whole hx hb hts hown hK hP (hts _ kw_774) dX12_round_259 ?_
    refine lv_aload_n hx hb dX12_round_262 rfl (lv_at hl 0 rfl) ?_
    refine r_gX12_rounds hx hb hts hown hK hP (hts _ kw_775) dX12_round_263 ?_
    refine jk_u hf (fun res hres => jv_run hx hb hml hown hts hK hN r_hG r_hNW hl.1 (n := 2) (As := [.long (rg_L σ2 0), .int (rg_I σ2 4)]) (rest := []) (c_rX12_keep l hap σ2 (rg_L σ2 0) (rg_I σ2 4) res hres) hP (ci := 12) (q0 := 0) rfl rfl rfl kw_1022 kw_1019 kw_1021 kw_40 kw_64 ⟨rfl, rfl⟩ (by decide +kernel) rfl ⟨Nat.le_of_ble_eq_true rfl, Nat.le_of_ble_eq_true rfl⟩ rfl (Nat.le_of_ble_eq_true rfl) dX12_round_266) hS (fun σ4 H locs hP hS hf => ?_)
    refine lv_aload_n hx hb dX12_round_269 rfl (lv_at hl 0 rfl) ?_
    refine lv_lload_n hx hb dX12_round_270 rfl (lv_at hl 1 rfl) ?_
    refine r_pX12_whole hx hb hts hown hK hap hP hS hf (hts _ kw_774) dX12_round_271 (fun σ5 H locs hP hS hf => ?_)
    refine lv_aload_n hx hb dX12_round_274 rfl (lv_at hl 0 rfl) ?_
    refine lv_dup hx hb dX12_round_275 rfl ?_
    refine r_gX12_rounds hx hb hts hown hK hP (hts _ kw_775) dX12_round_276 ?_
    refine lv_iconst (v := 1) hx hb dX12_round_279 (by decide) ?_
    refine lv_iadd hx hb dX12_round_280 ?_
    refine r_pX12_rounds hx hb hts hown hK hap hP hS hf (hts _ kw_775) dX12_round_281 (fun σ6 H locs hP hS hf => ?_)
    refine lv_aload_n hx hb dX12_round_284 rfl (lv_at hl 0 rfl) ?_
    refine lv_aload_n hx hb dX12_round_285 rfl (lv_at hl 0 rfl) ?_
    refine r_gX12_sent hx hb hts hown hK hP (hts _ kw_800) dX12_round_286 ?_
    refine r_pX12_told hx hb hts hown hK hap hP hS hf (hts _ kw_784) dX12_round_289 (fun σ7 H locs hP hS hf => ?_)
    refine lv_iconst (v := 0) hx hb dX12_round_292 (by decide) ?_
    refine lv_istore (lv' := [(4, .int 0), (0, .ref (ad 0)), (2, .long x2)]) hx hb dX12_round_293 hl (by decide) rfl (fun ls hl => ?_)
    exact (q_rX12_round_b295 C hap) σ7 0 hf H locs ls hP hS (lv_sub hl [1, 0] rfl)
  · refine lv_aload_n hx hb dX12_round_251 rfl (lv_at hl 0 rfl) ?_
    refine jk_u hf (fun res hres => jv_run hx hb hml hown hts hK hN r_hG r_hNW hl.1 (n := 0) (As := []) (rest := []) (c_rX12_asBefore l hap σ2 res hres) hP (ci := 12) (q0 := 0) rfl rfl rfl kw_1058 kw_1055 kw_1057 kw_49 kw_64 ⟨rfl, rfl⟩ (by decide +kernel) rfl ⟨Nat.le_of_ble_eq_true rfl, Nat.le_of_ble_eq_true rfl⟩ rfl (Nat.le_of_ble_eq_true rfl) dX12_round_252) hS (fun σ9 H locs hP hS hf => ?_)
    refine lv_iconst (v := 0) hx hb dX12_round_255 (by decide) ?_
    exact jr_i hx hb hr hlocks hf (by decide) hP hS dX12_round_256
def s_rX12_round_b238 (k192 : RS → Int64 → Int32 → Option (Int32 × RS)) (σ : RS) (x2 : Int64) (x4 : Int32) : Option (Int32 × RS) := kn_v (x4 + 1) (fun v1 => k192 σ x2 v1)
set_option maxRecDepth 100000 in
set_option maxHeartbeats 4000000 in
theorem p_rX12_round_b238 {p : Program} {l : Launch} {e : Env} {s : State} {m : MethodId} {args : Array Value} {below : List Frame} {meth : Method} {c : Code} {dC : Nat → ClassId} {dI : Nat → Nat → Nat} {kA : Nat → ClassId} {ad : Nat → Nat} (C : jxc cX12_round (some .boolean) 5 RX12 p s m args meth c dC dI kA) (hap : jw_ap 32 ad) {res : Int32 × RS} {k192 : RS → Int64 → Int32 → Option (Int32 × RS)} (hk192 : G_rX12_round_b192 p l e s m args below meth c dC dI kA ad res k192) : G_rX12_round_b238 p l e s m args below meth c dC dI kA ad res (s_rX12_round_b238 k192) := by
  obtain ⟨hx, hb, hml, hown, hts, hr, hlocks, hK, hN⟩ := id C
  intro σ x2 x4 hf H locs ls hP hS hl
  unfold s_rX12_round_b238 at hf
  obtain ⟨v1, e_v1, hf⟩ := kn_v_e hf
  refine lv_iinc (v := v1) (lv' := [(4, .int v1), (0, .ref (ad 0)), (2, .long x2)]) hx hb dX12_round_238 hl (k := 2) rfl e_v1 (by decide) rfl (fun ls hl => ?_)
  refine lv_goto (tgt := 192) hx hb dX12_round_241 (by decide) ?_
  exact hk192 σ x2 v1 hf H locs ls hP hS (lv_sub hl [1, 2, 0] rfl)
def s_rX12_round_b192 (k192 : RS → Int64 → Int32 → Option (Int32 × RS)) (σ : RS) (x2 : Int64) (x4 : Int32) : Option (Int32 × RS) := if (rg_I σ 1) ≤ x4 then (s_rX12_round_b244 σ x2) else (kn_ld (rg_A σ 7) 7 6 (fun v1 => if v1 = (-1) then (s_rX12_round_b244 σ x2) else (kn_i (s_rX12_isFailed σ) (fun v2 σ3 => if v2 = 0 then (kn_i (s_rX12_does σ3 6 x4 (-1)) (fun v4 σ5 => if v4 = 0 then (s_rX12_round_b238 k192 σ5 x2 x4) else (kn_v (x2 + (rg_L σ5 1)) (fun v6 => s_rX12_round_b238 k192 σ5 v6 x4)))) else (s_rX12_round_b244 σ3 x2)))))
set_option maxRecDepth 100000 in
set_option maxHeartbeats 4000000 in
theorem p_rX12_round_b192 {p : Program} {l : Launch} {e : Env} {s : State} {m : MethodId} {args : Array Value} {below : List Frame} {meth : Method} {c : Code} {dC : Nat → ClassId} {dI : Nat → Nat → Nat} {kA : Nat → ClassId} {ad : Nat → Nat} (C : jxc cX12_round (some .boolean) 5 RX12 p s m args meth c dC dI kA) (hap : jw_ap 32 ad) {res : Int32 × RS} {k192 : RS → Int64 → Int32 → Option (Int32 × RS)} (hk192 : G_rX12_round_b192 p l e s m args below meth c dC dI kA ad res k192) : G_rX12_round_b192 p l e s m args below meth c dC dI kA ad res (s_rX12_round_b192 k192) := by
  obtain ⟨hx, hb, hml, hown, hts, hr, hlocks, hK, hN⟩ := id C
  intro σ x2 x4 hf H locs ls hP hS hl
  unfold s_rX12_round_b192 at hf
  refine lv_iload hx hb dX12_round_192 (lv_at hl 2 rfl) ?_
  refine lv_aload_n hx hb dX12_round_194 rfl (lv_at hl 0 rfl) ?_
  refine r_gX12_nodes hx hb hts hown hK hP (hts _ kw_765) dX12_round_195 ?_
  refine jc_ge (tgt := 244) hx hb hf dX12_round_198 (by decide) (fun hf => ?_) (fun hf => ?_)
  · exact (p_rX12_round_b244 C hap) σ x2 hf H locs ls hP hS (lv_sub hl [0, 1] rfl)
  · refine lv_aload_n hx hb dX12_round_201 rfl (lv_at hl 0 rfl) ?_
    refine r_gX12_acts hx hb hts hown hK hP (hts _ kw_772) dX12_round_202 ?_
    refine lv_bipush (v := 6) hx hb dX12_round_205 (by decide) ?_
    refine ja_ild hx hb hK hP 11 0 rfl rfl hf dX12_round_207 (fun v1 hf => ?_)
    refine lv_iconst (v := (-1)) hx hb dX12_round_208 (by decide) ?_
    refine jc_eq (tgt := 244) hx hb hf dX12_round_209 (by decide) (fun hf => ?_) (fun hf => ?_)
    · exact (p_rX12_round_b244 C hap) σ x2 hf H locs ls hP hS (lv_sub hl [0, 1] rfl)
    · refine lv_aload_n hx hb dX12_round_212 rfl (lv_at hl 0 rfl) ?_
      refine jk_i hf (fun res hres => jv_run hx hb hml hown hts hK hN r_hG r_hNW hl.1 (n := 0) (As := []) (rest := []) (c_rX12_isFailed l hap σ res hres) hP (ci := 12) (q0 := 0) rfl rfl rfl kw_974 kw_971 kw_973 kw_28 kw_64 ⟨rfl, rfl⟩ (by decide +kernel) rfl ⟨Nat.le_of_ble_eq_true rfl, Nat.le_of_ble_eq_true rfl⟩ rfl (Nat.le_of_ble_eq_true rfl) dX12_round_213) hS (fun v2 σ3 H locs hP hS hf => ?_)
      refine jb_ne (tgt := 244) hx hb hf dX12_round_216 (by decide) (fun hf => ?_) (fun hf => ?_)
      · exact (p_rX12_round_b244 C hap) σ3 x2 hf H locs ls hP hS (lv_sub hl [0, 1] rfl)
      · refine lv_aload_n hx hb dX12_round_219 rfl (lv_at hl 0 rfl) ?_
        refine lv_bipush (v := 6) hx hb dX12_round_220 (by decide) ?_
        refine lv_iload hx hb dX12_round_222 (lv_at hl 2 rfl) ?_
        refine lv_iconst (v := (-1)) hx hb dX12_round_224 (by decide) ?_
        refine jk_i hf (fun res hres => jv_run hx hb hml hown hts hK hN r_hG r_hNW hl.1 (n := 3) (As := [.int 6, .int x4, .int (-1)]) (rest := []) (c_rX12_does l hap σ3 6 x4 (-1) res hres) hP (ci := 12) (q0 := 0) rfl rfl rfl kw_986 kw_983 kw_985 kw_31 kw_64 ⟨rfl, rfl⟩ (by decide +kernel) rfl ⟨Nat.le_of_ble_eq_true rfl, Nat.le_of_ble_eq_true rfl⟩ rfl (Nat.le_of_ble_eq_true rfl) dX12_round_225) hS (fun v4 σ5 H locs hP hS hf => ?_)
        refine jb_eq (tgt := 238) hx hb hf dX12_round_228 (by decide) (fun hf => ?_) (fun hf => ?_)
        · exact (p_rX12_round_b238 C hap hk192) σ5 x2 x4 hf H locs ls hP hS (lv_sub hl [0, 1, 2] rfl)
        · refine lv_lload_n hx hb dX12_round_231 rfl (lv_at hl 1 rfl) ?_
          refine lv_aload_n hx hb dX12_round_232 rfl (lv_at hl 0 rfl) ?_
          refine r_gX12_came hx hb hts hown hK hP (hts _ kw_791) dX12_round_233 ?_
          refine lv_ladd hx hb dX12_round_236 ?_
          refine jn_l hf (fun v6 hf => ?_)
          refine lv_lstore_n (lv' := [(2, .long v6), (0, .ref (ad 0)), (4, .int x4)]) hx hb dX12_round_237 rfl hl (by decide) rfl (fun ls hl => ?_)
          exact (p_rX12_round_b238 C hap hk192) σ5 v6 x4 hf H locs ls hP hS (lv_sub hl [1, 0, 2] rfl)
def f_rX12_round_b192 : RS → Int64 → Int32 → Option (Int32 × RS) := kn_fix (fun _ _ _ => none) (s_rX12_round_b192) FU
theorem q_rX12_round_b192 {p : Program} {l : Launch} {e : Env} {s : State} {m : MethodId} {args : Array Value} {below : List Frame} {meth : Method} {c : Code} {dC : Nat → ClassId} {dI : Nat → Nat → Nat} {kA : Nat → ClassId} {ad : Nat → Nat} (C : jxc cX12_round (some .boolean) 5 RX12 p s m args meth c dC dI kA) (hap : jw_ap 32 ad) {res : Int32 × RS} : G_rX12_round_b192 p l e s m args below meth c dC dI kA ad res (f_rX12_round_b192) := kn_fix_ind (G := fun F => G_rX12_round_b192 p l e s m args below meth c dC dI kA ad res F) (fun _ _ _ hf => by cases hf) (fun k192 hk192 => p_rX12_round_b192 C hap hk192) FU
def s_rX12_round_b177 (σ : RS) : Option (Int32 × RS) := kn_v (rs_L σ 2 0) (fun σ1 => kn_v (rs_I σ1 14 0) (fun σ2 => f_rX12_round_b192 σ2 0 0))
set_option maxRecDepth 100000 in
set_option maxHeartbeats 4000000 in
theorem p_rX12_round_b177 {p : Program} {l : Launch} {e : Env} {s : State} {m : MethodId} {args : Array Value} {below : List Frame} {meth : Method} {c : Code} {dC : Nat → ClassId} {dI : Nat → Nat → Nat} {kA : Nat → ClassId} {ad : Nat → Nat} (C : jxc cX12_round (some .boolean) 5 RX12 p s m args meth c dC dI kA) (hap : jw_ap 32 ad) {res : Int32 × RS} : G_rX12_round_b177 p l e s m args below meth c dC dI kA ad res (s_rX12_round_b177) := by
  obtain ⟨hx, hb, hml, hown, hts, hr, hlocks, hK, hN⟩ := id C
  intro σ hf H locs ls hP hS hl
  unfold s_rX12_round_b177 at hf
  refine lv_aload_n hx hb dX12_round_177 rfl (lv_at hl 0 rfl) ?_
  refine lv_lconst (v := 0) hx hb dX12_round_178 (by decide) ?_
  refine r_pX12_folded hx hb hts hown hK hap hP hS hf (hts _ kw_796) dX12_round_179 (fun σ1 H locs hP hS hf => ?_)
  refine lv_aload_n hx hb dX12_round_182 rfl (lv_at hl 0 rfl) ?_
  refine lv_iconst (v := 0) hx hb dX12_round_183 (by decide) ?_
  refine r_pX12_many hx hb hts hown hK hap hP hS hf (hts _ kw_797) dX12_round_184 (fun σ2 H locs hP hS hf => ?_)
  refine lv_lconst (v := 0) hx hb dX12_round_187 (by decide) ?_
  refine lv_lstore_n (lv' := [(2, .long 0), (0, .ref (ad 0))]) hx hb dX12_round_188 rfl hl (by decide) rfl (fun ls hl => ?_)
  refine lv_iconst (v := 0) hx hb dX12_round_189 (by decide) ?_
  refine lv_istore (lv' := [(4, .int 0), (2, .long 0), (0, .ref (ad 0))]) hx hb dX12_round_190 hl (by decide) rfl (fun ls hl => ?_)
  exact (q_rX12_round_b192 C hap) σ2 0 0 hf H locs ls hP hS (lv_sub hl [2, 1, 0] rfl)
def s_rX12_round_b151 (k151 : RS → Int32 → Option (Int32 × RS)) (σ : RS) (x2 : Int32) : Option (Int32 × RS) := if (rg_I σ 1) ≤ x2 then (s_rX12_round_b177 σ) else (kn_ld (rg_A σ 16) 12 x2 (fun v1 => kn_st (rs_A σ 4 (upd (rg_A σ 4) x2.toNatClampNeg (vp_nar .boolean v1))) 12 x2 (fun σ2 => kn_v (x2 + 1) (fun v3 => k151 σ2 v3))))
set_option maxRecDepth 100000 in
set_option maxHeartbeats 4000000 in
theorem p_rX12_round_b151 {p : Program} {l : Launch} {e : Env} {s : State} {m : MethodId} {args : Array Value} {below : List Frame} {meth : Method} {c : Code} {dC : Nat → ClassId} {dI : Nat → Nat → Nat} {kA : Nat → ClassId} {ad : Nat → Nat} (C : jxc cX12_round (some .boolean) 5 RX12 p s m args meth c dC dI kA) (hap : jw_ap 32 ad) {res : Int32 × RS} {k151 : RS → Int32 → Option (Int32 × RS)} (hk151 : G_rX12_round_b151 p l e s m args below meth c dC dI kA ad res k151) : G_rX12_round_b151 p l e s m args below meth c dC dI kA ad res (s_rX12_round_b151 k151) := by
  obtain ⟨hx, hb, hml, hown, hts, hr, hlocks, hK, hN⟩ := id C
  intro σ x2 hf H locs ls hP hS hl
  unfold s_rX12_round_b151 at hf
  refine lv_iload_n hx hb dX12_round_151 rfl (lv_at hl 1 rfl) ?_
  refine lv_aload_n hx hb dX12_round_152 rfl (lv_at hl 0 rfl) ?_
  refine r_gX12_nodes hx hb hts hown hK hP (hts _ kw_765) dX12_round_153 ?_
  refine jc_ge (tgt := 177) hx hb hf dX12_round_156 (by decide) (fun hf => ?_) (fun hf => ?_)
  · exact (p_rX12_round_b177 C hap) σ hf H locs ls hP hS (lv_sub hl [0] rfl)
  · refine lv_aload_n hx hb dX12_round_159 rfl (lv_at hl 0 rfl) ?_
    refine r_gX12_awake hx hb hts hown hK hP (hts _ kw_767) dX12_round_160 ?_
    refine lv_iload_n hx hb dX12_round_163 rfl (lv_at hl 1 rfl) ?_
    refine lv_aload_n hx hb dX12_round_164 rfl (lv_at hl 0 rfl) ?_
    refine r_gX12_newAwake hx hb hts hown hK hP (hts _ kw_805) dX12_round_165 ?_
    refine lv_iload_n hx hb dX12_round_168 rfl (lv_at hl 1 rfl) ?_
    refine ja_zld hx hb hK hP 26 2 rfl rfl hf dX12_round_169 (fun v1 hf => ?_)
    refine ja_zst hx hb hK (r_D hap σ) hP hS 7 2 rfl rfl rfl r_sA4 hf dX12_round_170 (fun σ2 H locs hP hS hf => ?_)
    obtain ⟨v3, e_v3, hf⟩ := kn_v_e hf
    refine lv_iinc (v := v3) (lv' := [(2, .int v3), (0, .ref (ad 0))]) hx hb dX12_round_171 hl (k := 1) rfl e_v3 (by decide) rfl (fun ls hl => ?_)
    refine lv_goto (tgt := 151) hx hb dX12_round_174 (by decide) ?_
    exact hk151 σ2 v3 hf H locs ls hP hS (lv_sub hl [1, 0] rfl)
def f_rX12_round_b151 : RS → Int32 → Option (Int32 × RS) := kn_fix (fun _ _ => none) (s_rX12_round_b151) FU
theorem q_rX12_round_b151 {p : Program} {l : Launch} {e : Env} {s : State} {m : MethodId} {args : Array Value} {below : List Frame} {meth : Method} {c : Code} {dC : Nat → ClassId} {dI : Nat → Nat → Nat} {kA : Nat → ClassId} {ad : Nat → Nat} (C : jxc cX12_round (some .boolean) 5 RX12 p s m args meth c dC dI kA) (hap : jw_ap 32 ad) {res : Int32 × RS} : G_rX12_round_b151 p l e s m args below meth c dC dI kA ad res (f_rX12_round_b151) := kn_fix_ind (G := fun F => G_rX12_round_b151 p l e s m args below meth c dC dI kA ad res F) (fun _ _ hf => by cases hf) (fun k151 hk151 => p_rX12_round_b151 C hap hk151) FU
def s_rX12_round_b149 (σ : RS) : Option (Int32 × RS) := f_rX12_round_b151 σ 0
set_option maxRecDepth 100000 in
set_option maxHeartbeats 4000000 in
theorem p_rX12_round_b149 {p : Program} {l : Launch} {e : Env} {s : State} {m : MethodId} {args : Array Value} {below : List Frame} {meth : Method} {c : Code} {dC : Nat → ClassId} {dI : Nat → Nat → Nat} {kA : Nat → ClassId} {ad : Nat → Nat} (C : jxc cX12_round (some .boolean) 5 RX12 p s m args meth c dC dI kA) (hap : jw_ap 32 ad) {res : Int32 × RS} : G_rX12_round_b149 p l e s m args below meth c dC dI kA ad res (s_rX12_round_b149) := by
  obtain ⟨hx, hb, hml, hown, hts, hr, hlocks, hK, hN⟩ := id C
  intro σ hf H locs ls hP hS hl
  unfold s_rX12_round_b149 at hf
  refine lv_iconst (v := 0) hx hb dX12_round_149 (by decide) ?_
  refine lv_istore_n (lv' := [(2, .int 0), (0, .ref (ad 0))]) hx hb dX12_round_150 rfl hl (by decide) rfl (fun ls hl => ?_)
  exact (q_rX12_round_b151 C hap) σ 0 hf H locs ls hP hS (lv_sub hl [1, 0] rfl)
def s_rX12_round_b125 (k125 : RS → Int32 → Option (Int32 × RS)) (σ : RS) (x2 : Int32) : Option (Int32 × RS) := if 36 ≤ x2 then (s_rX12_round_b149 σ) else (kn_ld (rg_B σ 8) 36 x2 (fun v1 => kn_st (rs_B σ 1 (vp_updL (rg_B σ 1) x2.toNatClampNeg v1)) 36 x2 (fun σ2 => kn_v (x2 + 1) (fun v3 => k125 σ2 v3))))
set_option maxRecDepth 100000 in
set_option maxHeartbeats 4000000 in
theorem p_rX12_round_b125 {p : Program} {l : Launch} {e : Env} {s : State} {m : MethodId} {args : Array Value} {below : List Frame} {meth : Method} {c : Code} {dC : Nat → ClassId} {dI : Nat → Nat → Nat} {kA : Nat → ClassId} {ad : Nat → Nat} (C : jxc cX12_round (some .boolean) 5 RX12 p s m args meth c dC dI kA) (hap : jw_ap 32 ad) {res : Int32 × RS} {k125 : RS → Int32 → Option (Int32 × RS)} (hk125 : G_rX12_round_b125 p l e s m args below meth c dC dI kA ad res k125) : G_rX12_round_b125 p l e s m args below meth c dC dI kA ad res (s_rX12_round_b125 k125) := by
  obtain ⟨hx, hb, hml, hown, hts, hr, hlocks, hK, hN⟩ := id C
  intro σ x2 hf H locs ls hP hS hl
  unfold s_rX12_round_b125 at hf
  refine lv_iload_n hx hb dX12_round_125 rfl (lv_at hl 1 rfl) ?_
  refine lv_bipush (v := 36) hx hb dX12_round_126 (by decide) ?_
  refine jc_ge (tgt := 149) hx hb hf dX12_round_128 (by decide) (fun hf => ?_) (fun hf => ?_)
  · exact (p_rX12_round_b149 C hap) σ hf H locs ls hP hS (lv_sub hl [0] rfl)
  · refine lv_aload_n hx hb dX12_round_131 rfl (lv_at hl 0 rfl) ?_
    refine r_gX12_states hx hb hts hown hK hP (hts _ kw_766) dX12_round_132 ?_
    refine lv_iload_n hx hb dX12_round_135 rfl (lv_at hl 1 rfl) ?_
    refine lv_aload_n hx hb dX12_round_136 rfl (lv_at hl 0 rfl) ?_
    refine r_gX12_newStates hx hb hts hown hK hP (hts _ kw_804) dX12_round_137 ?_
    refine lv_iload_n hx hb dX12_round_140 rfl (lv_at hl 1 rfl) ?_
    refine ja_lld hx hb hK hP 25 1 rfl rfl hf dX12_round_141 (fun v1 hf => ?_)
    refine ja_lst hx hb hK (r_D hap σ) hP hS 6 1 rfl rfl r_sB1 hf dX12_round_142 (fun σ2 H locs hP hS hf => ?_)
    obtain ⟨v3, e_v3, hf⟩ := kn_v_e hf
    refine lv_iinc (v := v3) (lv' := [(2, .int v3), (0, .ref (ad 0))]) hx hb dX12_round_143 hl (k := 1) rfl e_v3 (by decide) rfl (fun ls hl => ?_)
    refine lv_goto (tgt := 125) hx hb dX12_round_146 (by decide) ?_
    exact hk125 σ2 v3 hf H locs ls hP hS (lv_sub hl [1, 0] rfl)
def f_rX12_round_b125 : RS → Int32 → Option (Int32 × RS) := kn_fix (fun _ _ => none) (s_rX12_round_b125) FU
theorem q_rX12_round_b125 {p : Program} {l : Launch} {e : Env} {s : State} {m : MethodId} {args : Array Value} {below : List Frame} {meth : Method} {c : Code} {dC : Nat → ClassId} {dI : Nat → Nat → Nat} {kA : Nat → ClassId} {ad : Nat → Nat} (C : jxc cX12_round (some .boolean) 5 RX12 p s m args meth c dC dI kA) (hap : jw_ap 32 ad) {res : Int32 × RS} : G_rX12_round_b125 p l e s m args below meth c dC dI kA ad res (f_rX12_round_b125) := kn_fix_ind (G := fun F => G_rX12_round_b125 p l e s m args below meth c dC dI kA ad res F) (fun _ _ hf => by cases hf) (fun k125 hk125 => p_rX12_round_b125 C hap hk125) FU
def s_rX12_round_b114 (σ : RS) : Option (Int32 × RS) := kn_i (s_rX12_isFailed σ) (fun v1 σ2 => if v1 = 0 then (f_rX12_round_b125 σ2 0) else (some (0, σ2)))
set_option maxRecDepth 100000 in
set_option maxHeartbeats 4000000 in
theorem p_rX12_round_b114 {p : Program} {l : Launch} {e : Env} {s : State} {m : MethodId} {args : Array Value} {below : List Frame} {meth : Method} {c : Code} {dC : Nat → ClassId} {dI : Nat → Nat → Nat} {kA : Nat → ClassId} {ad : Nat → Nat} (C : jxc cX12_round (some .boolean) 5 RX12 p s m args meth c dC dI kA) (hap : jw_ap 32 ad) {res : Int32 × RS} : G_rX12_round_b114 p l e s m args below meth c dC dI kA ad res (s_rX12_round_b114) := by
  obtain ⟨hx, hb, hml, hown, hts, hr, hlocks, hK, hN⟩ := id C
  intro σ hf H locs ls hP hS hl
  unfold s_rX12_round_b114 at hf
  refine lv_aload_n hx hb dX12_round_114 rfl (lv_at hl 0 rfl) ?_
  refine jk_i hf (fun res hres => jv_run hx hb hml hown hts hK hN r_hG r_hNW hl.1 (n := 0) (As := []) (rest := []) (c_rX12_isFailed l hap σ res hres) hP (ci := 12) (q0 := 0) rfl rfl rfl kw_974 kw_971 kw_973 kw_28 kw_64 ⟨rfl, rfl⟩ (by decide +kernel) rfl ⟨Nat.le_of_ble_eq_true rfl, Nat.le_of_ble_eq_true rfl⟩ rfl (Nat.le_of_ble_eq_true rfl) dX12_round_115) hS (fun v1 σ2 H locs hP hS hf => ?_)
  refine jb_eq (tgt := 123) hx hb hf dX12_round_118 (by decide) (fun hf => ?_) (fun hf => ?_)
  · refine lv_iconst (v := 0) hx hb dX12_round_123 (by decide) ?_
    refine lv_istore_n (lv' := [(2, .int 0), (0, .ref (ad 0))]) hx hb dX12_round_124 rfl hl (by decide) rfl (fun ls hl => ?_)
    exact (q_rX12_round_b125 C hap) σ2 0 hf H locs ls hP hS (lv_sub hl [1, 0] rfl)
  · refine lv_iconst (v := 0) hx hb dX12_round_121 (by decide) ?_
    exact jr_i hx hb hr hlocks hf (by decide) hP hS dX12_round_122
def s_rX12_round_b108 (k80 : RS → Int32 → Option (Int32 × RS)) (σ : RS) (x2 : Int32) : Option (Int32 × RS) := kn_v (x2 + 1) (fun v1 => k80 σ v1)
set_option maxRecDepth 100000 in
set_option maxHeartbeats 4000000 in
theorem p_rX12_round_b108 {p : Program} {l : Launch} {e : Env} {s : State} {m : MethodId} {args : Array Value} {below : List Frame} {meth : Method} {c : Code} {dC : Nat → ClassId} {dI : Nat → Nat → Nat} {kA : Nat → ClassId} {ad : Nat → Nat} (C : jxc cX12_round (some .boolean) 5 RX12 p s m args meth c dC dI kA) (hap : jw_ap 32 ad) {res : Int32 × RS} {k80 : RS → Int32 → Option (Int32 × RS)} (hk80 : G_rX12_round_b80 p l e s m args below meth c dC dI kA ad res k80) : G_rX12_round_b108 p l e s m args below meth c dC dI kA ad res (s_rX12_round_b108 k80) := by
  obtain ⟨hx, hb, hml, hown, hts, hr, hlocks, hK, hN⟩ := id C
  intro σ x2 hf H locs ls hP hS hl
  unfold s_rX12_round_b108 at hf
  obtain ⟨v1, e_v1, hf⟩ := kn_v_e hf
  refine lv_iinc (v := v1) (lv' := [(2, .int v1), (0, .ref (ad 0))]) hx hb dX12_round_108 hl (k := 1) rfl e_v1 (by decide) rfl (fun ls hl => ?_)
  refine lv_goto (tgt := 80) hx hb dX12_round_111 (by decide) ?_
  exact hk80 σ v1 hf H locs ls hP hS (lv_sub hl [1, 0] rfl)
def s_rX12_round_b80 (k80 : RS → Int32 → Option (Int32 × RS)) (σ : RS) (x2 : Int32) : Option (Int32 × RS) := if (rg_I σ 1) ≤ x2 then (s_rX12_round_b114 σ) else (kn_i (s_rX12_isFailed σ) (fun v1 σ2 => if v1 = 0 then (kn_i (s_rX12_isReached σ2 x2) (fun v3 σ4 => if v3 = 0 then (s_rX12_round_b108 k80 σ4 x2) else (kn_u (s_rX12_renew σ4 x2) (fun σ6 => s_rX12_round_b108 k80 σ6 x2)))) else (s_rX12_round_b114 σ2)))
set_option maxRecDepth 100000 in
set_option maxHeartbeats 4000000 in
theorem p_rX12_round_b80 {p : Program} {l : Launch} {e : Env} {s : State} {m : MethodId} {args : Array Value} {below : List Frame} {meth : Method} {c : Code} {dC : Nat → ClassId} {dI : Nat → Nat → Nat} {kA : Nat → ClassId} {ad : Nat → Nat} (C : jxc cX12_round (some .boolean) 5 RX12 p s m args meth c dC dI kA) (hap : jw_ap 32 ad) {res : Int32 × RS} {k80 : RS → Int32 → Option (Int32 × RS)} (hk80 : G_rX12_round_b80 p l e s m args below meth c dC dI kA ad res k80) : G_rX12_round_b80 p l e s m args below meth c dC dI kA ad res (s_rX12_round_b80 k80) := by
  obtain ⟨hx, hb, hml, hown, hts, hr, hlocks, hK, hN⟩ := id C
  intro σ x2 hf H locs ls hP hS hl
  unfold s_rX12_round_b80 at hf
  refine lv_iload_n hx hb dX12_round_80 rfl (lv_at hl 1 rfl) ?_
  refine lv_aload_n hx hb dX12_round_81 rfl (lv_at hl 0 rfl) ?_
  refine r_gX12_nodes hx hb hts hown hK hP (hts _ kw_765) dX12_round_82 ?_
  refine jc_ge (tgt := 114) hx hb hf dX12_round_85 (by decide) (fun hf => ?_) (fun hf => ?_)
  · exact (p_rX12_round_b114 C hap) σ hf H locs ls hP hS (lv_sub hl [0] rfl)
  · refine lv_aload_n hx hb dX12_round_88 rfl (lv_at hl 0 rfl) ?_
    refine jk_i hf (fun res hres => jv_run hx hb hml hown hts hK hN r_hG r_hNW hl.1 (n := 0) (As := []) (rest := []) (c_rX12_isFailed l hap σ res hres) hP (ci := 12) (q0 := 0) rfl rfl rfl kw_974 kw_971 kw_973 kw_28 kw_64 ⟨rfl, rfl⟩ (by decide +kernel) rfl ⟨Nat.le_of_ble_eq_true rfl, Nat.le_of_ble_eq_true rfl⟩ rfl (Nat.le_of_ble_eq_true rfl) dX12_round_89) hS (fun v1 σ2 H locs hP hS hf => ?_)
    refine jb_ne (tgt := 114) hx hb hf dX12_round_92 (by decide) (fun hf => ?_) (fun hf => ?_)
    · exact (p_rX12_round_b114 C hap) σ2 hf H locs ls hP hS (lv_sub hl [0] rfl)
    · refine lv_aload_n hx hb dX12_round_95 rfl (lv_at hl 0 rfl) ?_
      refine lv_iload_n hx hb dX12_round_96 rfl (lv_at hl 1 rfl) ?_
      refine jk_i hf (fun res hres => jv_run hx hb hml hown hts hK hN r_hG r_hNW hl.1 (n := 1) (As := [.int x2]) (rest := []) (c_rX12_isReached l hap σ2 x2 res hres) hP (ci := 12) (q0 := 0) rfl rfl rfl kw_1042 kw_1039 kw_1041 kw_45 kw_64 ⟨rfl, rfl⟩ (by decide +kernel) rfl ⟨Nat.le_of_ble_eq_true rfl, Nat.le_of_ble_eq_true rfl⟩ rfl (Nat.le_of_ble_eq_true rfl) dX12_round_97) hS (fun v3 σ4 H locs hP hS hf => ?_)
      refine jb_eq (tgt := 108) hx hb hf dX12_round_100 (by decide) (fun hf => ?_) (fun hf => ?_)
      · exact (p_rX12_round_b108 C hap hk80) σ4 x2 hf H locs ls hP hS (lv_sub hl [0, 1] rfl)
      · refine lv_aload_n hx hb dX12_round_103 rfl (lv_at hl 0 rfl) ?_
        refine lv_iload_n hx hb dX12_round_104 rfl (lv_at hl 1 rfl) ?_
        refine jk_u hf (fun res hres => jv_run hx hb hml hown hts hK hN r_hG r_hNW hl.1 (n := 1) (As := [.int x2]) (rest := []) (c_rX12_renew l hap σ4 x2 res hres) hP (ci := 12) (q0 := 0) rfl rfl rfl kw_1046 kw_1043 kw_1045 kw_46 kw_64 ⟨rfl, rfl⟩ (by decide +kernel) rfl ⟨Nat.le_of_ble_eq_true rfl, Nat.le_of_ble_eq_true rfl⟩ rfl (Nat.le_of_ble_eq_true rfl) dX12_round_105) hS (fun σ6 H locs hP hS hf => ?_)
        exact (p_rX12_round_b108 C hap hk80) σ6 x2 hf H locs ls hP hS (lv_sub hl [0, 1] rfl)
def f_rX12_round_b80 : RS → Int32 → Option (Int32 × RS) := kn_fix (fun _ _ => none) (s_rX12_round_b80) FU
theorem q_rX12_round_b80 {p : Program} {l : Launch} {e : Env} {s : State} {m : MethodId} {args : Array Value} {below : List Frame} {meth : Method} {c : Code} {dC : Nat → ClassId} {dI : Nat → Nat → Nat} {kA : Nat → ClassId} {ad : Nat → Nat} (C : jxc cX12_round (some .boolean) 5 RX12 p s m args meth c dC dI kA) (hap : jw_ap 32 ad) {res : Int32 × RS} : G_rX12_round_b80 p l e s m args below meth c dC dI kA ad res (f_rX12_round_b80) := kn_fix_ind (G := fun F => G_rX12_round_b80 p l e s m args below meth c dC dI kA ad res F) (fun _ _ hf => by cases hf) (fun k80 hk80 => p_rX12_round_b80 C hap hk80) FU
def s_rX12_round_b78 (σ : RS) : Option (Int32 × RS) := f_rX12_round_b80 σ 0
set_option maxRecDepth 100000 in
set_option maxHeartbeats 4000000 in
theorem p_rX12_round_b78 {p : Program} {l : Launch} {e : Env} {s : State} {m : MethodId} {args : Array Value} {below : List Frame} {meth : Method} {c : Code} {dC : Nat → ClassId} {dI : Nat → Nat → Nat} {kA : Nat → ClassId} {ad : Nat → Nat} (C : jxc cX12_round (some .boolean) 5 RX12 p s m args meth c dC dI kA) (hap : jw_ap 32 ad) {res : Int32 × RS} : G_rX12_round_b78 p l e s m args below meth c dC dI kA ad res (s_rX12_round_b78) := by
  obtain ⟨hx, hb, hml, hown, hts, hr, hlocks, hK, hN⟩ := id C
  intro σ hf H locs ls hP hS hl
  unfold s_rX12_round_b78 at hf
  refine lv_iconst (v := 0) hx hb dX12_round_78 (by decide) ?_
  refine lv_istore_n (lv' := [(2, .int 0), (0, .ref (ad 0))]) hx hb dX12_round_79 rfl hl (by decide) rfl (fun ls hl => ?_)
  exact (q_rX12_round_b80 C hap) σ 0 hf H locs ls hP hS (lv_sub hl [1, 0] rfl)
def s_rX12_round_b52 (k52 : RS → Int32 → Option (Int32 × RS)) (σ : RS) (x2 : Int32) : Option (Int32 × RS) := if (rg_I σ 1) ≤ x2 then (s_rX12_round_b78 σ) else (kn_ld (rg_A σ 4) 12 x2 (fun v1 => kn_st (rs_A σ 16 (upd (rg_A σ 16) x2.toNatClampNeg (vp_nar .boolean v1))) 12 x2 (fun σ2 => kn_v (x2 + 1) (fun v3 => k52 σ2 v3))))
set_option maxRecDepth 100000 in
set_option maxHeartbeats 4000000 in
theorem p_rX12_round_b52 {p : Program} {l : Launch} {e : Env} {s : State} {m : MethodId} {args : Array Value} {below : List Frame} {meth : Method} {c : Code} {dC : Nat → ClassId} {dI : Nat → Nat → Nat} {kA : Nat → ClassId} {ad : Nat → Nat} (C : jxc cX12_round (some .boolean) 5 RX12 p s m args meth c dC dI kA) (hap : jw_ap 32 ad) {res : Int32 × RS} {k52 : RS → Int32 → Option (Int32 × RS)} (hk52 : G_rX12_round_b52 p l e s m args below meth c dC dI kA ad res k52) : G_rX12_round_b52 p l e s m args below meth c dC dI kA ad res (s_rX12_round_b52 k52) := by
  obtain ⟨hx, hb, hml, hown, hts, hr, hlocks, hK, hN⟩ := id C
  intro σ x2 hf H locs ls hP hS hl
  unfold s_rX12_round_b52 at hf
  refine lv_iload_n hx hb dX12_round_52 rfl (lv_at hl 1 rfl) ?_
  refine lv_aload_n hx hb dX12_round_53 rfl (lv_at hl 0 rfl) ?_
  refine r_gX12_nodes hx hb hts hown hK hP (hts _ kw_765) dX12_round_54 ?_
  refine jc_ge (tgt := 78) hx hb hf dX12_round_57 (by decide) (fun hf => ?_) (fun hf => ?_)
  · exact (p_rX12_round_b78 C hap) σ hf H locs ls hP hS (lv_sub hl [0] rfl)
  · refine lv_aload_n hx hb dX12_round_60 rfl (lv_at hl 0 rfl) ?_
    refine r_gX12_newAwake hx hb hts hown hK hP (hts _ kw_805) dX12_round_61 ?_
    refine lv_iload_n hx hb dX12_round_64 rfl (lv_at hl 1 rfl) ?_
    refine lv_aload_n hx hb dX12_round_65 rfl (lv_at hl 0 rfl) ?_
    refine r_gX12_awake hx hb hts hown hK hP (hts _ kw_767) dX12_round_66 ?_
    refine lv_iload_n hx hb dX12_round_69 rfl (lv_at hl 1 rfl) ?_
    refine ja_zld hx hb hK hP 7 2 rfl rfl hf dX12_round_70 (fun v1 hf => ?_)
    refine ja_zst hx hb hK (r_D hap σ) hP hS 26 2 rfl rfl rfl r_sA16 hf dX12_round_71 (fun σ2 H locs hP hS hf => ?_)
    obtain ⟨v3, e_v3, hf⟩ := kn_v_e hf
    refine lv_iinc (v := v3) (lv' := [(2, .int v3), (0, .ref (ad 0))]) hx hb dX12_round_72 hl (k := 1) rfl e_v3 (by decide) rfl (fun ls hl => ?_)
    refine lv_goto (tgt := 52) hx hb dX12_round_75 (by decide) ?_
    exact hk52 σ2 v3 hf H locs ls hP hS (lv_sub hl [1, 0] rfl)
def f_rX12_round_b52 : RS → Int32 → Option (Int32 × RS) := kn_fix (fun _ _ => none) (s_rX12_round_b52) FU
theorem q_rX12_round_b52 {p : Program} {l : Launch} {e : Env} {s : State} {m : MethodId} {args : Array Value} {below : List Frame} {meth : Method} {c : Code} {dC : Nat → ClassId} {dI : Nat → Nat → Nat} {kA : Nat → ClassId} {ad : Nat → Nat} (C : jxc cX12_round (some .boolean) 5 RX12 p s m args meth c dC dI kA) (hap : jw_ap 32 ad) {res : Int32 × RS} : G_rX12_round_b52 p l e s m args below meth c dC dI kA ad res (f_rX12_round_b52) := kn_fix_ind (G := fun F => G_rX12_round_b52 p l e s m args below meth c dC dI kA ad res F) (fun _ _ hf => by cases hf) (fun k52 hk52 => p_rX12_round_b52 C hap hk52) FU
def s_rX12_round_b50 (σ : RS) : Option (Int32 × RS) := f_rX12_round_b52 σ 0
set_option maxRecDepth 100000 in
set_option maxHeartbeats 4000000 in
theorem p_rX12_round_b50 {p : Program} {l : Launch} {e : Env} {s : State} {m : MethodId} {args : Array Value} {below : List Frame} {meth : Method} {c : Code} {dC : Nat → ClassId} {dI : Nat → Nat → Nat} {kA : Nat → ClassId} {ad : Nat → Nat} (C : jxc cX12_round (some .boolean) 5 RX12 p s m args meth c dC dI kA) (hap : jw_ap 32 ad) {res : Int32 × RS} : G_rX12_round_b50 p l e s m args below meth c dC dI kA ad res (s_rX12_round_b50) := by
  obtain ⟨hx, hb, hml, hown, hts, hr, hlocks, hK, hN⟩ := id C
  intro σ hf H locs ls hP hS hl
  unfold s_rX12_round_b50 at hf
  refine lv_iconst (v := 0) hx hb dX12_round_50 (by decide) ?_
  refine lv_istore_n (lv' := [(2, .int 0), (0, .ref (ad 0))]) hx hb dX12_round_51 rfl hl (by decide) rfl (fun ls hl => ?_)
  exact (q_rX12_round_b52 C hap) σ 0 hf H locs ls hP hS (lv_sub hl [1, 0] rfl)
def s_rX12_round_b26 (k26 : RS → Int32 → Option (Int32 × RS)) (σ : RS) (x2 : Int32) : Option (Int32 × RS) := if 36 ≤ x2 then (s_rX12_round_b50 σ) else (kn_ld (rg_B σ 1) 36 x2 (fun v1 => kn_st (rs_B σ 8 (vp_updL (rg_B σ 8) x2.toNatClampNeg v1)) 36 x2 (fun σ2 => kn_v (x2 + 1) (fun v3 => k26 σ2 v3))))
set_option maxRecDepth 100000 in
set_option maxHeartbeats 4000000 in
theorem p_rX12_round_b26 {p : Program} {l : Launch} {e : Env} {s : State} {m : MethodId} {args : Array Value} {below : List Frame} {meth : Method} {c : Code} {dC : Nat → ClassId} {dI : Nat → Nat → Nat} {kA : Nat → ClassId} {ad : Nat → Nat} (C : jxc cX12_round (some .boolean) 5 RX12 p s m args meth c dC dI kA) (hap : jw_ap 32 ad) {res : Int32 × RS} {k26 : RS → Int32 → Option (Int32 × RS)} (hk26 : G_rX12_round_b26 p l e s m args below meth c dC dI kA ad res k26) : G_rX12_round_b26 p l e s m args below meth c dC dI kA ad res (s_rX12_round_b26 k26) := by
  obtain ⟨hx, hb, hml, hown, hts, hr, hlocks, hK, hN⟩ := id C
  intro σ x2 hf H locs ls hP hS hl
  unfold s_rX12_round_b26 at hf
  refine lv_iload_n hx hb dX12_round_26 rfl (lv_at hl 1 rfl) ?_
  refine lv_bipush (v := 36) hx hb dX12_round_27 (by decide) ?_
  refine jc_ge (tgt := 50) hx hb hf dX12_round_29 (by decide) (fun hf => ?_) (fun hf => ?_)
  · exact (p_rX12_round_b50 C hap) σ hf H locs ls hP hS (lv_sub hl [0] rfl)
  · refine lv_aload_n hx hb dX12_round_32 rfl (lv_at hl 0 rfl) ?_
    refine r_gX12_newStates hx hb hts hown hK hP (hts _ kw_804) dX12_round_33 ?_
    refine lv_iload_n hx hb dX12_round_36 rfl (lv_at hl 1 rfl) ?_
    refine lv_aload_n hx hb dX12_round_37 rfl (lv_at hl 0 rfl) ?_
    refine r_gX12_states hx hb hts hown hK hP (hts _ kw_766) dX12_round_38 ?_
    refine lv_iload_n hx hb dX12_round_41 rfl (lv_at hl 1 rfl) ?_
    refine ja_lld hx hb hK hP 6 1 rfl rfl hf dX12_round_42 (fun v1 hf => ?_)
    refine ja_lst hx hb hK (r_D hap σ) hP hS 25 1 rfl rfl r_sB8 hf dX12_round_43 (fun σ2 H locs hP hS hf => ?_)
    obtain ⟨v3, e_v3, hf⟩ := kn_v_e hf
    refine lv_iinc (v := v3) (lv' := [(2, .int v3), (0, .ref (ad 0))]) hx hb dX12_round_44 hl (k := 1) rfl e_v3 (by decide) rfl (fun ls hl => ?_)
    refine lv_goto (tgt := 26) hx hb dX12_round_47 (by decide) ?_
    exact hk26 σ2 v3 hf H locs ls hP hS (lv_sub hl [1, 0] rfl)
def f_rX12_round_b26 : RS → Int32 → Option (Int32 × RS) := kn_fix (fun _ _ => none) (s_rX12_round_b26) FU
theorem q_rX12_round_b26 {p : Program} {l : Launch} {e : Env} {s : State} {m : MethodId} {args : Array Value} {below : List Frame} {meth : Method} {c : Code} {dC : Nat → ClassId} {dI : Nat → Nat → Nat} {kA : Nat → ClassId} {ad : Nat → Nat} (C : jxc cX12_round (some .boolean) 5 RX12 p s m args meth c dC dI kA) (hap : jw_ap 32 ad) {res : Int32 × RS} : G_rX12_round_b26 p l e s m args below meth c dC dI kA ad res (f_rX12_round_b26) := kn_fix_ind (G := fun F => G_rX12_round_b26 p l e s m args below meth c dC dI kA ad res F) (fun _ _ hf => by cases hf) (fun k26 hk26 => p_rX12_round_b26 C hap hk26) FU
def s_rX12_round (σ : RS) (x1 : Int32) : Option (Int32 × RS) := kn_v (rs_I σ 11 0) (fun σ1 => kn_v (rs_L σ1 2 0) (fun σ2 => kn_v (rs_I σ2 14 0) (fun σ3 => kn_u (s_rX12_remember σ3) (fun σ5 => kn_u (s_rX12_sendAll σ5 x1) (fun σ7 => f_rX12_round_b26 σ7 0)))))
set_option maxRecDepth 100000 in
set_option maxHeartbeats 4000000 in
theorem p_rX12_round {p : Program} {l : Launch} {e : Env} {s : State} {m : MethodId} {args : Array Value} {below : List Frame} {meth : Method} {c : Code} {dC : Nat → ClassId} {dI : Nat → Nat → Nat} {kA : Nat → ClassId} {ad : Nat → Nat} (C : jxc cX12_round (some .boolean) 5 RX12 p s m args meth c dC dI kA) (hap : jw_ap 32 ad) {res : Int32 × RS} : G_rX12_round p l e s m args below meth c dC dI kA ad res (s_rX12_round) := by
  obtain ⟨hx, hb, hml, hown, hts, hr, hlocks, hK, hN⟩ := id C
  intro σ x1 hf H locs ls hP hS hl
  unfold s_rX12_round at hf
  refine lv_aload_n hx hb dX12_round_0 rfl (lv_at hl 0 rfl) ?_
  refine lv_iconst (v := 0) hx hb dX12_round_1 (by decide) ?_
  refine r_pX12_spent hx hb hts hown hK hap hP hS hf (hts _ kw_793) dX12_round_2 (fun σ1 H locs hP hS hf => ?_)
  refine lv_aload_n hx hb dX12_round_5 rfl (lv_at hl 0 rfl) ?_
  refine lv_lconst (v := 0) hx hb dX12_round_6 (by decide) ?_
  refine r_pX12_folded hx hb hts hown hK hap hP hS hf (hts _ kw_796) dX12_round_7 (fun σ2 H locs hP hS hf => ?_)
  refine lv_aload_n hx hb dX12_round_10 rfl (lv_at hl 0 rfl) ?_
  refine lv_iconst (v := 0) hx hb dX12_round_11 (by decide) ?_
  refine r_pX12_many hx hb hts hown hK hap hP hS hf (hts _ kw_797) dX12_round_12 (fun σ3 H locs hP hS hf => ?_)
  refine lv_aload_n hx hb dX12_round_15 rfl (lv_at hl 0 rfl) ?_
  refine jk_u hf (fun res hres => jv_run hx hb hml hown hts hK hN r_hG r_hNW hl.1 (n := 0) (As := []) (rest := []) (c_rX12_remember l hap σ3 res hres) hP (ci := 12) (q0 := 0) rfl rfl rfl kw_970 kw_967 kw_969 kw_27 kw_64 ⟨rfl, rfl⟩ (by decide +kernel) rfl ⟨Nat.le_of_ble_eq_true rfl, Nat.le_of_ble_eq_true rfl⟩ rfl (Nat.le_of_ble_eq_true rfl) dX12_round_16) hS (fun σ5 H locs hP hS hf => ?_)
  refine lv_aload_n hx hb dX12_round_19 rfl (lv_at hl 0 rfl) ?_
  refine lv_iload_n hx hb dX12_round_20 rfl (lv_at hl 1 rfl) ?_
  refine jk_u hf (fun res hres => jv_run hx hb hml hown hts hK hN r_hG r_hNW hl.1 (n := 1) (As := [.int x1]) (rest := []) (c_rX12_sendAll l hap σ5 x1 res hres) hP (ci := 12) (q0 := 0) rfl rfl rfl kw_1034 kw_1031 kw_1033 kw_43 kw_64 ⟨rfl, rfl⟩ (by decide +kernel) rfl ⟨Nat.le_of_ble_eq_true rfl, Nat.le_of_ble_eq_true rfl⟩ rfl (Nat.le_of_ble_eq_true rfl) dX12_round_21) hS (fun σ7 H locs hP hS hf => ?_)
  refine lv_iconst (v := 0) hx hb dX12_round_24 (by decide) ?_
  refine lv_istore_n (lv' := [(2, .int 0), (0, .ref (ad 0)), (1, .int x1)]) hx hb dX12_round_25 rfl hl (by decide) rfl (fun ls hl => ?_)
  exact (q_rX12_round_b26 C hap) σ7 0 hf H locs ls hP hS (lv_sub hl [1, 0] rfl)
theorem c_rX12_round (l : Launch) {dC : Nat → ClassId} {dI : Nat → Nat → Nat} {kA : Nat → ClassId} {ad : Nat → Nat} (hap : jw_ap 32 ad) (σ : RS) (x1 : Int32) (res : Int32 × RS) (hf : s_rX12_round σ x1 = some res) : jm_i l KW NW (dC, dI) vwCl (jtys kA) (jw_A 32 ad) (r_w kA ad) yX12_round cX12_round 5 .boolean (rm_rX12_round) [.ref (ad 0), .int x1] σ res := jm_i_of (by decide) (Nat.le_of_ble_eq_true rfl) (fun p e s m below meth c C hP hS ls hl => p_rX12_round C hap σ x1 hf s.heap [] ls hP hS hl)
