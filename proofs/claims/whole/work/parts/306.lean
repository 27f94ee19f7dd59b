theorem dX12_sendsOn_0 : decode cX12_sendsOn 0 = .ok (.aload_n 0, 1) := by decide +kernel
theorem dX12_sendsOn_1 : decode cX12_sendsOn 1 = .ok (.lconst 0, 1) := by decide +kernel
theorem dX12_sendsOn_2 : decode cX12_sendsOn 2 = .ok (.putfield 169, 3) := by decide +kernel
theorem dX12_sendsOn_5 : decode cX12_sendsOn 5 = .ok (.aload_n 0, 1) := by decide +kernel
theorem dX12_sendsOn_6 : decode cX12_sendsOn 6 = .ok (.iconst 0, 1) := by decide +kernel
theorem dX12_sendsOn_7 : decode cX12_sendsOn 7 = .ok (.putfield 172, 3) := by decide +kernel
theorem dX12_sendsOn_10 : decode cX12_sendsOn 10 = .ok (.iconst 0, 1) := by decide +kernel
theorem dX12_sendsOn_11 : decode cX12_sendsOn 11 = .ok (.istore_n 2, 1) := by decide +kernel
theorem dX12_sendsOn_12 : decode cX12_sendsOn 12 = .ok (.iload_n 2, 1) := by decide +kernel
theorem dX12_sendsOn_13 : decode cX12_sendsOn 13 = .ok (.aload_n 0, 1) := by decide +kernel
theorem dX12_sendsOn_14 : decode cX12_sendsOn 14 = .ok (.getfield 119, 3) := by decide +kernel
theorem dX12_sendsOn_17 : decode cX12_sendsOn 17 = .ok (.if_icmp .ge 98, 3) := by decide +kernel
theorem dX12_sendsOn_20 : decode cX12_sendsOn 20 = .ok (.aload_n 0, 1) := by decide +kernel
theorem dX12_sendsOn_21 : decode cX12_sendsOn 21 = .ok (.invokevirtual 210, 3) := by decide +kernel
theorem dX12_sendsOn_24 : decode cX12_sendsOn 24 = .ok (.ifCond .ne 91, 3) := by decide +kernel
theorem dX12_sendsOn_27 : decode cX12_sendsOn 27 = .ok (.aload_n 0, 1) := by decide +kernel
theorem dX12_sendsOn_28 : decode cX12_sendsOn 28 = .ok (.getfield 33, 3) := by decide +kernel
theorem dX12_sendsOn_31 : decode cX12_sendsOn 31 = .ok (.iload_n 2, 1) := by decide +kernel
theorem dX12_sendsOn_32 : decode cX12_sendsOn 32 = .ok (.iaload, 1) := by decide +kernel
theorem dX12_sendsOn_33 : decode cX12_sendsOn 33 = .ok (.iload_n 1, 1) := by decide +kernel
theorem dX12_sendsOn_34 : decode cX12_sendsOn 34 = .ok (.if_icmp .ne 75, 3) := by decide +kernel
theorem dX12_sendsOn_37 : decode cX12_sendsOn 37 = .ok (.aload_n 0, 1) := by decide +kernel
theorem dX12_sendsOn_38 : decode cX12_sendsOn 38 = .ok (.iload_n 2, 1) := by decide +kernel
theorem dX12_sendsOn_39 : decode cX12_sendsOn 39 = .ok (.invokevirtual 207, 3) := by decide +kernel
theorem dX12_sendsOn_42 : decode cX12_sendsOn 42 = .ok (.aload_n 0, 1) := by decide +kernel
theorem dX12_sendsOn_43 : decode cX12_sendsOn 43 = .ok (.getfield 197, 3) := by decide +kernel
theorem dX12_sendsOn_46 : decode cX12_sendsOn 46 = .ok (.ifCond .eq 63, 3) := by decide +kernel
theorem dX12_sendsOn_49 : decode cX12_sendsOn 49 = .ok (.aload_n 0, 1) := by decide +kernel
theorem dX12_sendsOn_50 : decode cX12_sendsOn 50 = .ok (.invokevirtual 210, 3) := by decide +kernel
theorem dX12_sendsOn_53 : decode cX12_sendsOn 53 = .ok (.ifCond .ne 56, 3) := by decide +kernel
theorem dX12_sendsOn_56 : decode cX12_sendsOn 56 = .ok (.aload_n 0, 1) := by decide +kernel
theorem dX12_sendsOn_57 : decode cX12_sendsOn 57 = .ok (.getfield 249, 3) := by decide +kernel
theorem dX12_sendsOn_60 : decode cX12_sendsOn 60 = .ok (.bipush 60, 2) := by decide +kernel
theorem dX12_sendsOn_62 : decode cX12_sendsOn 62 = .ok (.if_icmp .ne 14, 3) := by decide +kernel
theorem dX12_sendsOn_65 : decode cX12_sendsOn 65 = .ok (.aload_n 0, 1) := by decide +kernel
theorem dX12_sendsOn_66 : decode cX12_sendsOn 66 = .ok (.iconst 5, 1) := by decide +kernel
theorem dX12_sendsOn_67 : decode cX12_sendsOn 67 = .ok (.iconst 1, 1) := by decide +kernel
theorem dX12_sendsOn_68 : decode cX12_sendsOn 68 = .ok (.iload_n 1, 1) := by decide +kernel
theorem dX12_sendsOn_69 : decode cX12_sendsOn 69 = .ok (.iload_n 2, 1) := by decide +kernel
theorem dX12_sendsOn_70 : decode cX12_sendsOn 70 = .ok (.invokevirtual 193, 3) := by decide +kernel
theorem dX12_sendsOn_73 : decode cX12_sendsOn 73 = .ok (.goto 36, 3) := by decide +kernel
theorem dX12_sendsOn_76 : decode cX12_sendsOn 76 = .ok (.aload_n 0, 1) := by decide +kernel
theorem dX12_sendsOn_77 : decode cX12_sendsOn 77 = .ok (.getfield 96, 3) := by decide +kernel
theorem dX12_sendsOn_80 : decode cX12_sendsOn 80 = .ok (.aload_n 0, 1) := by decide +kernel
theorem dX12_sendsOn_81 : decode cX12_sendsOn 81 = .ok (.getfield 249, 3) := by decide +kernel
theorem dX12_sendsOn_84 : decode cX12_sendsOn 84 = .ok (.iload_n 2, 1) := by decide +kernel
theorem dX12_sendsOn_85 : decode cX12_sendsOn 85 = .ok (.iastore, 1) := by decide +kernel
theorem dX12_sendsOn_86 : decode cX12_sendsOn 86 = .ok (.aload_n 0, 1) := by decide +kernel
theorem dX12_sendsOn_87 : decode cX12_sendsOn 87 = .ok (.getfield 99, 3) := by decide +kernel
theorem dX12_sendsOn_90 : decode cX12_sendsOn 90 = .ok (.aload_n 0, 1) := by decide +kernel
theorem dX12_sendsOn_91 : decode cX12_sendsOn 91 = .ok (.getfield 249, 3) := by decide +kernel
theorem dX12_sendsOn_94 : decode cX12_sendsOn 94 = .ok (.aload_n 0, 1) := by decide +kernel
theorem dX12_sendsOn_95 : decode cX12_sendsOn 95 = .ok (.getfield 204, 3) := by decide +kernel
theorem dX12_sendsOn_98 : decode cX12_sendsOn 98 = .ok (.lastore, 1) := by decide +kernel
theorem dX12_sendsOn_99 : decode cX12_sendsOn 99 = .ok (.aload_n 0, 1) := by decide +kernel
theorem dX12_sendsOn_100 : decode cX12_sendsOn 100 = .ok (.dup, 1) := by decide +kernel
theorem dX12_sendsOn_101 : decode cX12_sendsOn 101 = .ok (.getfield 249, 3) := by decide +kernel
theorem dX12_sendsOn_104 : decode cX12_sendsOn 104 = .ok (.iconst 1, 1) := by decide +kernel
theorem dX12_sendsOn_105 : decode cX12_sendsOn 105 = .ok (.iadd, 1) := by decide +kernel
theorem dX12_sendsOn_106 : decode cX12_sendsOn 106 = .ok (.putfield 249, 3) := by decide +kernel
theorem dX12_sendsOn_109 : decode cX12_sendsOn 109 = .ok (.iinc 2 1, 3) := by decide +kernel
theorem dX12_sendsOn_112 : decode cX12_sendsOn 112 = .ok (.goto (-100), 3) := by decide +kernel
theorem dX12_sendsOn_115 : decode cX12_sendsOn 115 = .ok (.return_, 1) := by decide +kernel
theorem dX12_takes_0 : decode cX12_takes 0 = .ok (.aload_n 0, 1) := by decide +kernel
theorem dX12_takes_1 : decode cX12_takes 1 = .ok (.getfield 96, 3) := by decide +kernel
theorem dX12_takes_4 : decode cX12_takes 4 = .ok (.iconst 0, 1) := by decide +kernel
theorem dX12_takes_5 : decode cX12_takes 5 = .ok (.iaload, 1) := by decide +kernel
theorem dX12_takes_6 : decode cX12_takes 6 = .ok (.istore_n 2, 1) := by decide +kernel
theorem dX12_takes_7 : decode cX12_takes 7 = .ok (.aload_n 0, 1) := by decide +kernel
theorem dX12_takes_8 : decode cX12_takes 8 = .ok (.getfield 99, 3) := by decide +kernel
theorem dX12_takes_11 : decode cX12_takes 11 = .ok (.iconst 0, 1) := by decide +kernel
theorem dX12_takes_12 : decode cX12_takes 12 = .ok (.laload, 1) := by decide +kernel
theorem dX12_takes_13 : decode cX12_takes 13 = .ok (.lstore_n 3, 1) := by decide +kernel
theorem dX12_takes_14 : decode cX12_takes 14 = .ok (.aload_n 0, 1) := by decide +kernel
theorem dX12_takes_15 : decode cX12_takes 15 = .ok (.dup, 1) := by decide +kernel
theorem dX12_takes_16 : decode cX12_takes 16 = .ok (.getfield 249, 3) := by decide +kernel
theorem dX12_takes_19 : decode cX12_takes 19 = .ok (.iconst 1, 1) := by decide +kernel
theorem dX12_takes_20 : decode cX12_takes 20 = .ok (.isub, 1) := by decide +kernel
theorem dX12_takes_21 : decode cX12_takes 21 = .ok (.putfield 249, 3) := by decide +kernel
theorem dX12_takes_24 : decode cX12_takes 24 = .ok (.iconst 0, 1) := by decide +kernel
theorem dX12_takes_25 : decode cX12_takes 25 = .ok (.istore 5, 2) := by decide +kernel
theorem dX12_takes_27 : decode cX12_takes 27 = .ok (.iload 5, 2) := by decide +kernel
theorem dX12_takes_29 : decode cX12_takes 29 = .ok (.aload_n 0, 1) := by decide +kernel
theorem dX12_takes_30 : decode cX12_takes 30 = .ok (.getfield 249, 3) := by decide +kernel
theorem dX12_takes_33 : decode cX12_takes 33 = .ok (.if_icmp .ge 41, 3) := by decide +kernel
theorem dX12_takes_36 : decode cX12_takes 36 = .ok (.aload_n 0, 1) := by decide +kernel
theorem dX12_takes_37 : decode cX12_takes 37 = .ok (.getfield 96, 3) := by decide +kernel
theorem dX12_takes_40 : decode cX12_takes 40 = .ok (.iload 5, 2) := by decide +kernel
theorem dX12_takes_42 : decode cX12_takes 42 = .ok (.aload_n 0, 1) := by decide +kernel
theorem dX12_takes_43 : decode cX12_takes 43 = .ok (.getfield 96, 3) := by decide +kernel
theorem dX12_takes_46 : decode cX12_takes 46 = .ok (.iload 5, 2) := by decide +kernel
theorem dX12_takes_48 : decode cX12_takes 48 = .ok (.iconst 1, 1) := by decide +kernel
theorem dX12_takes_49 : decode cX12_takes 49 = .ok (.iadd, 1) := by decide +kernel
theorem dX12_takes_50 : decode cX12_takes 50 = .ok (.iaload, 1) := by decide +kernel
theorem dX12_takes_51 : decode cX12_takes 51 = .ok (.iastore, 1) := by decide +kernel
theorem dX12_takes_52 : decode cX12_takes 52 = .ok (.aload_n 0, 1) := by decide +kernel
theorem dX12_takes_53 : decode cX12_takes 53 = .ok (.getfield 99, 3) := by decide +kernel
theorem dX12_takes_56 : decode cX12_takes 56 = .ok (.iload 5, 2) := by decide +kernel
theorem dX12_takes_58 : decode cX12_takes 58 = .ok (.aload_n 0, 1) := by decide +kernel
theorem dX12_takes_59 : decode cX12_takes 59 = .ok (.getfield 99, 3) := by decide +kernel
theorem dX12_takes_62 : decode cX12_takes 62 = .ok (.iload 5, 2) := by decide +kernel
theorem dX12_takes_64 : decode cX12_takes 64 = .ok (.iconst 1, 1) := by decide +kernel
theorem dX12_takes_65 : decode cX12_takes 65 = .ok (.iadd, 1) := by decide +kernel
theorem dX12_takes_66 : decode cX12_takes 66 = .ok (.laload, 1) := by decide +kernel
theorem dX12_takes_67 : decode cX12_takes 67 = .ok (.lastore, 1) := by decide +kernel
theorem dX12_takes_68 : decode cX12_takes 68 = .ok (.iinc 5 1, 3) := by decide +kernel
theorem dX12_takes_71 : decode cX12_takes 71 = .ok (.goto (-44), 3) := by decide +kernel
theorem dX12_takes_74 : decode cX12_takes 74 = .ok (.aload_n 0, 1) := by decide +kernel
theorem dX12_takes_75 : decode cX12_takes 75 = .ok (.getfield 36, 3) := by decide +kernel
theorem dX12_takes_78 : decode cX12_takes 78 = .ok (.iload_n 2, 1) := by decide +kernel
theorem dX12_takes_79 : decode cX12_takes 79 = .ok (.iaload, 1) := by decide +kernel
theorem dX12_takes_80 : decode cX12_takes 80 = .ok (.istore 5, 2) := by decide +kernel
theorem dX12_takes_82 : decode cX12_takes 82 = .ok (.aload_n 0, 1) := by decide +kernel
theorem dX12_takes_83 : decode cX12_takes 83 = .ok (.lload_n 3, 1) := by decide +kernel
theorem dX12_takes_84 : decode cX12_takes 84 = .ok (.putfield 169, 3) := by decide +kernel
theorem dX12_takes_87 : decode cX12_takes 87 = .ok (.aload_n 0, 1) := by decide +kernel
theorem dX12_takes_88 : decode cX12_takes 88 = .ok (.iconst 1, 1) := by decide +kernel
theorem dX12_takes_89 : decode cX12_takes 89 = .ok (.putfield 172, 3) := by decide +kernel
theorem dX12_takes_92 : decode cX12_takes 92 = .ok (.iconst 0, 1) := by decide +kernel
theorem dX12_takes_93 : decode cX12_takes 93 = .ok (.istore 6, 2) := by decide +kernel
theorem dX12_takes_95 : decode cX12_takes 95 = .ok (.iload 6, 2) := by decide +kernel
theorem dX12_takes_97 : decode cX12_takes 97 = .ok (.iconst 3, 1) := by decide +kernel
theorem dX12_takes_98 : decode cX12_takes 98 = .ok (.if_icmp .ge 47, 3) := by decide +kernel
theorem dX12_takes_101 : decode cX12_takes 101 = .ok (.aload_n 0, 1) := by decide +kernel
theorem dX12_takes_102 : decode cX12_takes 102 = .ok (.getfield 102, 3) := by decide +kernel
theorem dX12_takes_105 : decode cX12_takes 105 = .ok (.iload 6, 2) := by decide +kernel
theorem dX12_takes_107 : decode cX12_takes 107 = .ok (.aload_n 0, 1) := by decide +kernel
theorem dX12_takes_108 : decode cX12_takes 108 = .ok (.getfield 26, 3) := by decide +kernel
theorem dX12_takes_111 : decode cX12_takes 111 = .ok (.iconst 3, 1) := by decide +kernel
theorem dX12_takes_112 : decode cX12_takes 112 = .ok (.iload 5, 2) := by decide +kernel
theorem dX12_takes_114 : decode cX12_takes 114 = .ok (.imul, 1) := by decide +kernel
theorem dX12_takes_115 : decode cX12_takes 115 = .ok (.iload 6, 2) := by decide +kernel
theorem dX12_takes_117 : decode cX12_takes 117 = .ok (.iadd, 1) := by decide +kernel
theorem dX12_takes_118 : decode cX12_takes 118 = .ok (.laload, 1) := by decide +kernel
theorem dX12_takes_119 : decode cX12_takes 119 = .ok (.lastore, 1) := by decide +kernel
theorem dX12_takes_120 : decode cX12_takes 120 = .ok (.aload_n 0, 1) := by decide +kernel
theorem dX12_takes_121 : decode cX12_takes 121 = .ok (.getfield 84, 3) := by decide +kernel
theorem dX12_takes_124 : decode cX12_takes 124 = .ok (.iload 6, 2) := by decide +kernel
theorem dX12_takes_126 : decode cX12_takes 126 = .ok (.aload_n 0, 1) := by decide +kernel
theorem dX12_takes_127 : decode cX12_takes 127 = .ok (.getfield 26, 3) := by decide +kernel
theorem dX12_takes_130 : decode cX12_takes 130 = .ok (.iconst 3, 1) := by decide +kernel
theorem dX12_takes_131 : decode cX12_takes 131 = .ok (.iload 5, 2) := by decide +kernel
theorem dX12_takes_133 : decode cX12_takes 133 = .ok (.imul, 1) := by decide +kernel
theorem dX12_takes_134 : decode cX12_takes 134 = .ok (.iload 6, 2) := by decide +kernel
theorem dX12_takes_136 : decode cX12_takes 136 = .ok (.iadd, 1) := by decide +kernel
theorem dX12_takes_137 : decode cX12_takes 137 = .ok (.laload, 1) := by decide +kernel
theorem dX12_takes_138 : decode cX12_takes 138 = .ok (.lastore, 1) := by decide +kernel
theorem dX12_takes_139 : decode cX12_takes 139 = .ok (.iinc 6 1, 3) := by decide +kernel
theorem dX12_takes_142 : decode cX12_takes 142 = .ok (.goto (-47), 3) := by decide +kernel
theorem dX12_takes_145 : decode cX12_takes 145 = .ok (.iconst 0, 1) := by decide +kernel
theorem dX12_takes_146 : decode cX12_takes 146 = .ok (.istore 6, 2) := by decide +kernel
theorem dX12_takes_148 : decode cX12_takes 148 = .ok (.iload 6, 2) := by decide +kernel
theorem dX12_takes_150 : decode cX12_takes 150 = .ok (.iconst 3, 1) := by decide +kernel
theorem dX12_takes_151 : decode cX12_takes 151 = .ok (.if_icmp .ge 54, 3) := by decide +kernel
theorem dX12_takes_154 : decode cX12_takes 154 = .ok (.aload_n 0, 1) := by decide +kernel
theorem dX12_takes_155 : decode cX12_takes 155 = .ok (.invokevirtual 210, 3) := by decide +kernel
theorem dX12_takes_158 : decode cX12_takes 158 = .ok (.ifCond .ne 47, 3) := by decide +kernel
theorem dX12_takes_161 : decode cX12_takes 161 = .ok (.aload_n 0, 1) := by decide +kernel
theorem dX12_takes_162 : decode cX12_takes 162 = .ok (.getfield 42, 3) := by decide +kernel
theorem dX12_takes_165 : decode cX12_takes 165 = .ok (.iconst 2, 1) := by decide +kernel
theorem dX12_takes_166 : decode cX12_takes 166 = .ok (.iload 6, 2) := by decide +kernel
theorem dX12_takes_168 : decode cX12_takes 168 = .ok (.iadd, 1) := by decide +kernel
theorem dX12_takes_169 : decode cX12_takes 169 = .ok (.iaload, 1) := by decide +kernel
theorem dX12_takes_170 : decode cX12_takes 170 = .ok (.iconst (-1), 1) := by decide +kernel
theorem dX12_takes_171 : decode cX12_takes 171 = .ok (.if_icmp .eq 28, 3) := by decide +kernel
theorem dX12_takes_174 : decode cX12_takes 174 = .ok (.aload_n 0, 1) := by decide +kernel
theorem dX12_takes_175 : decode cX12_takes 175 = .ok (.iconst 2, 1) := by decide +kernel
theorem dX12_takes_176 : decode cX12_takes 176 = .ok (.iload 6, 2) := by decide +kernel
theorem dX12_takes_178 : decode cX12_takes 178 = .ok (.iadd, 1) := by decide +kernel
theorem dX12_takes_179 : decode cX12_takes 179 = .ok (.iload 5, 2) := by decide +kernel
theorem dX12_takes_181 : decode cX12_takes 181 = .ok (.iconst (-1), 1) := by decide +kernel
theorem dX12_takes_182 : decode cX12_takes 182 = .ok (.invokevirtual 201, 3) := by decide +kernel
theorem dX12_takes_185 : decode cX12_takes 185 = .ok (.ifCond .eq 14, 3) := by decide +kernel
theorem dX12_takes_188 : decode cX12_takes 188 = .ok (.aload_n 0, 1) := by decide +kernel
theorem dX12_takes_189 : decode cX12_takes 189 = .ok (.getfield 84, 3) := by decide +kernel
theorem dX12_takes_192 : decode cX12_takes 192 = .ok (.iload 6, 2) := by decide +kernel
theorem dX12_takes_194 : decode cX12_takes 194 = .ok (.aload_n 0, 1) := by decide +kernel
theorem dX12_takes_195 : decode cX12_takes 195 = .ok (.getfield 165, 3) := by decide +kernel
theorem dX12_takes_198 : decode cX12_takes 198 = .ok (.lastore, 1) := by decide +kernel
theorem dX12_takes_199 : decode cX12_takes 199 = .ok (.iinc 6 1, 3) := by decide +kernel
theorem dX12_takes_202 : decode cX12_takes 202 = .ok (.goto (-54), 3) := by decide +kernel
theorem dX12_takes_205 : decode cX12_takes 205 = .ok (.aload_n 0, 1) := by decide +kernel
theorem dX12_takes_206 : decode cX12_takes 206 = .ok (.invokevirtual 210, 3) := by decide +kernel
theorem dX12_takes_209 : decode cX12_takes 209 = .ok (.ifCond .eq 5, 3) := by decide +kernel
theorem dX12_takes_212 : decode cX12_takes 212 = .ok (.iconst 0, 1) := by decide +kernel
theorem dX12_takes_213 : decode cX12_takes 213 = .ok (.ireturn, 1) := by decide +kernel
theorem dX12_takes_214 : decode cX12_takes 214 = .ok (.iconst 0, 1) := by decide +kernel
theorem dX12_takes_215 : decode cX12_takes 215 = .ok (.istore 6, 2) := by decide +kernel
theorem dX12_takes_217 : decode cX12_takes 217 = .ok (.iload 6, 2) := by decide +kernel
theorem dX12_takes_219 : decode cX12_takes 219 = .ok (.iconst 3, 1) := by decide +kernel
theorem dX12_takes_220 : decode cX12_takes 220 = .ok (.if_icmp .ge 28, 3) := by decide +kernel
theorem dX12_takes_223 : decode cX12_takes 223 = .ok (.aload_n 0, 1) := by decide +kernel
theorem dX12_takes_224 : decode cX12_takes 224 = .ok (.getfield 26, 3) := by decide +kernel
theorem dX12_takes_227 : decode cX12_takes 227 = .ok (.iconst 3, 1) := by decide +kernel
theorem dX12_takes_228 : decode cX12_takes 228 = .ok (.iload 5, 2) := by decide +kernel
theorem dX12_takes_230 : decode cX12_takes 230 = .ok (.imul, 1) := by decide +kernel
theorem dX12_takes_231 : decode cX12_takes 231 = .ok (.iload 6, 2) := by decide +kernel
theorem dX12_takes_233 : decode cX12_takes 233 = .ok (.iadd, 1) := by decide +kernel
theorem dX12_takes_234 : decode cX12_takes 234 = .ok (.aload_n 0, 1) := by decide +kernel
theorem dX12_takes_235 : decode cX12_takes 235 = .ok (.getfield 84, 3) := by decide +kernel
theorem dX12_takes_238 : decode cX12_takes 238 = .ok (.iload 6, 2) := by decide +kernel
theorem dX12_takes_240 : decode cX12_takes 240 = .ok (.laload, 1) := by decide +kernel
theorem dX12_takes_241 : decode cX12_takes 241 = .ok (.lastore, 1) := by decide +kernel
theorem dX12_takes_242 : decode cX12_takes 242 = .ok (.iinc 6 1, 3) := by decide +kernel
theorem dX12_takes_245 : decode cX12_takes 245 = .ok (.goto (-28), 3) := by decide +kernel
theorem dX12_takes_248 : decode cX12_takes 248 = .ok (.aload_n 0, 1) := by decide +kernel
theorem dX12_takes_249 : decode cX12_takes 249 = .ok (.getfield 42, 3) := by decide +kernel
theorem dX12_takes_252 : decode cX12_takes 252 = .ok (.iconst 5, 1) := by decide +kernel
theorem dX12_takes_253 : decode cX12_takes 253 = .ok (.iaload, 1) := by decide +kernel
theorem dX12_takes_254 : decode cX12_takes 254 = .ok (.iconst (-1), 1) := by decide +kernel
theorem dX12_takes_255 : decode cX12_takes 255 = .ok (.if_icmp .eq 27, 3) := by decide +kernel
theorem dX12_takes_258 : decode cX12_takes 258 = .ok (.aload_n 0, 1) := by decide +kernel
theorem dX12_takes_259 : decode cX12_takes 259 = .ok (.iconst 5, 1) := by decide +kernel
theorem dX12_takes_260 : decode cX12_takes 260 = .ok (.iload 5, 2) := by decide +kernel
theorem dX12_takes_262 : decode cX12_takes 262 = .ok (.iconst (-1), 1) := by decide +kernel
theorem dX12_takes_263 : decode cX12_takes 263 = .ok (.invokevirtual 201, 3) := by decide +kernel
theorem dX12_takes_266 : decode cX12_takes 266 = .ok (.ifCond .eq 16, 3) := by decide +kernel
theorem dX12_takes_269 : decode cX12_takes 269 = .ok (.aload_n 0, 1) := by decide +kernel
theorem dX12_takes_270 : decode cX12_takes 270 = .ok (.getfield 165, 3) := by decide +kernel
theorem dX12_takes_273 : decode cX12_takes 273 = .ok (.lconst 0, 1) := by decide +kernel
theorem dX12_takes_274 : decode cX12_takes 274 = .ok (.lcmp, 1) := by decide +kernel
theorem dX12_takes_275 : decode cX12_takes 275 = .ok (.ifCond .eq 7, 3) := by decide +kernel
theorem dX12_takes_278 : decode cX12_takes 278 = .ok (.iconst 1, 1) := by decide +kernel
theorem dX12_takes_279 : decode cX12_takes 279 = .ok (.goto 4, 3) := by decide +kernel
theorem dX12_takes_282 : decode cX12_takes 282 = .ok (.iconst 0, 1) := by decide +kernel
theorem dX12_takes_283 : decode cX12_takes 283 = .ok (.istore 6, 2) := by decide +kernel
theorem dX12_takes_285 : decode cX12_takes 285 = .ok (.aload_n 0, 1) := by decide +kernel
theorem dX12_takes_286 : decode cX12_takes 286 = .ok (.invokevirtual 210, 3) := by decide +kernel
theorem dX12_takes_289 : decode cX12_takes 289 = .ok (.ifCond .ne 14, 3) := by decide +kernel
theorem dX12_takes_292 : decode cX12_takes 292 = .ok (.iload 6, 2) := by decide +kernel
theorem dX12_takes_294 : decode cX12_takes 294 = .ok (.ifCond .ne 9, 3) := by decide +kernel
theorem dX12_takes_297 : decode cX12_takes 297 = .ok (.aload_n 0, 1) := by decide +kernel
theorem dX12_takes_298 : decode cX12_takes 298 = .ok (.iload 5, 2) := by decide +kernel
theorem dX12_takes_300 : decode cX12_takes 300 = .ok (.invokevirtual 252, 3) := by decide +kernel
theorem dX12_takes_303 : decode cX12_takes 303 = .ok (.aload_n 0, 1) := by decide +kernel
theorem dX12_takes_304 : decode cX12_takes 304 = .ok (.invokevirtual 210, 3) := by decide +kernel
theorem dX12_takes_307 : decode cX12_takes 307 = .ok (.ifCond .eq 39, 3) := by decide +kernel
theorem dX12_takes_310 : decode cX12_takes 310 = .ok (.iconst 0, 1) := by decide +kernel
theorem dX12_takes_311 : decode cX12_takes 311 = .ok (.istore 7, 2) := by decide +kernel
theorem dX12_takes_313 : decode cX12_takes 313 = .ok (.iload 7, 2) := by decide +kernel
theorem dX12_takes_315 : decode cX12_takes 315 = .ok (.iconst 3, 1) := by decide +kernel
theorem dX12_takes_316 : decode cX12_takes 316 = .ok (.if_icmp .ge 28, 3) := by decide +kernel
theorem dX12_takes_319 : decode cX12_takes 319 = .ok (.aload_n 0, 1) := by decide +kernel
theorem dX12_takes_320 : decode cX12_takes 320 = .ok (.getfield 26, 3) := by decide +kernel
theorem dX12_takes_323 : decode cX12_takes 323 = .ok (.iconst 3, 1) := by decide +kernel
theorem dX12_takes_324 : decode cX12_takes 324 = .ok (.iload 5, 2) := by decide +kernel
theorem dX12_takes_326 : decode cX12_takes 326 = .ok (.imul, 1) := by decide +kernel
theorem dX12_takes_327 : decode cX12_takes 327 = .ok (.iload 7, 2) := by decide +kernel
theorem dX12_takes_329 : decode cX12_takes 329 = .ok (.iadd, 1) := by decide +kernel
theorem dX12_takes_330 : decode cX12_takes 330 = .ok (.aload_n 0, 1) := by decide +kernel
theorem dX12_takes_331 : decode cX12_takes 331 = .ok (.getfield 102, 3) := by decide +kernel
theorem dX12_takes_334 : decode cX12_takes 334 = .ok (.iload 7, 2) := by decide +kernel
theorem dX12_takes_336 : decode cX12_takes 336 = .ok (.laload, 1) := by decide +kernel
theorem dX12_takes_337 : decode cX12_takes 337 = .ok (.lastore, 1) := by decide +kernel
theorem dX12_takes_338 : decode cX12_takes 338 = .ok (.iinc 7 1, 3) := by decide +kernel
theorem dX12_takes_341 : decode cX12_takes 341 = .ok (.goto (-28), 3) := by decide +kernel
theorem dX12_takes_344 : decode cX12_takes 344 = .ok (.iconst 0, 1) := by decide +kernel
theorem dX12_takes_345 : decode cX12_takes 345 = .ok (.ireturn, 1) := by decide +kernel
theorem dX12_takes_346 : decode cX12_takes 346 = .ok (.aload_n 0, 1) := by decide +kernel
theorem dX12_takes_347 : decode cX12_takes 347 = .ok (.getfield 60, 3) := by decide +kernel
theorem dX12_takes_350 : decode cX12_takes 350 = .ok (.iload_n 1, 1) := by decide +kernel
theorem dX12_takes_351 : decode cX12_takes 351 = .ok (.iload_n 2, 1) := by decide +kernel
theorem dX12_takes_352 : decode cX12_takes 352 = .ok (.iastore, 1) := by decide +kernel
theorem dX12_takes_353 : decode cX12_takes 353 = .ok (.aload_n 0, 1) := by decide +kernel
theorem dX12_takes_354 : decode cX12_takes 354 = .ok (.getfield 63, 3) := by decide +kernel
theorem dX12_takes_357 : decode cX12_takes 357 = .ok (.iload_n 1, 1) := by decide +kernel
theorem dX12_takes_358 : decode cX12_takes 358 = .ok (.lload_n 3, 1) := by decide +kernel
theorem dX12_takes_359 : decode cX12_takes 359 = .ok (.lastore, 1) := by decide +kernel
theorem dX12_takes_360 : decode cX12_takes 360 = .ok (.iconst 1, 1) := by decide +kernel
theorem dX12_takes_361 : decode cX12_takes 361 = .ok (.ireturn, 1) := by decide +kernel
def rm_rX12_sendsOn : Room := { frames := 5, cells := 0, slots := 0, locals := 119 }
def G_rX12_sendsOn_b109 (p : Program) (l : Launch) (e : Env) (s : State) (m : MethodId) (args : Array Value) (below : List Frame) (meth : Method) (c : Code) (dC : Nat → ClassId) (dI : Nat → Nat → Nat) (kA : Nat → ClassId) (ad : Nat → Nat) (res : RS) (F : RS → Int32 → Int32 → Option (RS)) : Prop := ∀ (σ : RS) (x1 : Int32) (x2 : Int32), F σ x1 x2 = some res → ∀ (H : Heap) (locs : List Loc) (ls : Array Slot), va_P (dC, dI) vwCl (r_w kA ad σ) H → va_S (jw_A 32 ad) s.heap H locs → lv_has ls 3 [(0, .ref (ad 0)), (1, .int x1), (2, .int x2)] → W p l e rm_rX12_sendsOn s m args below meth c H locs 0 0 (r_Qu below dC dI kA ad args s res) (F0 m 109 ls [])
def G_rX12_sendsOn_b12 (p : Program) (l : Launch) (e : Env) (s : State) (m : MethodId) (args : Array Value) (below : List Frame) (meth : Method) (c : Code) (dC : Nat → ClassId) (dI : Nat → Nat → Nat) (kA : Nat → ClassId) (ad : Nat → Nat) (res : RS) (F : RS → Int32 → Int32 → Option (RS)) : Prop := ∀ (σ : RS) (x1 : Int32) (x2 : Int32), F σ x1 x2 = some res → ∀ (H : Heap) (locs : List Loc) (ls : Array Slot), va_P (dC, dI) vwCl (r_w kA ad σ) H → va_S (jw_A 32 ad) s.heap H locs → lv_has ls 3 [(0, .ref (ad 0)), (1, .int x1), (2, .int x2)] → W p l e rm_rX12_sendsOn s m args below meth c H locs 0 0 (r_Qu below dC dI kA ad args s res) (F0 m 12 ls [])
def G_rX12_sendsOn (p : Program) (l : Launch) (e : Env) (s : State) (m : MethodId) (args : Array Value) (below : List Frame) (meth : Method) (c : Code) (dC : Nat → ClassId) (dI : Nat → Nat → Nat) (kA : Nat → ClassId) (ad : Nat → Nat) (res : RS) (F : RS → Int32 → Option (RS)) : Prop := ∀ (σ : RS) (x1 : Int32), F σ x1 = some res → ∀ (H : Heap) (locs : List Loc) (ls : Array Slot), va_P (dC, dI) vwCl (r_w kA ad σ) H → va_S (jw_A 32 ad) s.heap H locs → lv_has ls 3 [(0, .ref (ad 0)), (1, .int x1)] → W p l e rm_rX12_sendsOn s m args below meth c H locs 0 0 (r_Qu below dC dI kA ad args s res) (F0 m 0 ls [])
def s_rX12_sendsOn_b109 (k12 : RS → Int32 → Int32 → Option (RS)) (σ : RS) (x1 : Int32) (x2 : Int32) : Option (RS) := kn_v (x2 + 1) (fun v1 => k12 σ x1 v1)
set_option maxRecDepth 100000 in
set_option maxHeartbeats 4000000 in
theorem p_rX12_sendsOn_b109 {p : Program} {l : Launch} {e : Env} {s : State} {m : MethodId} {args : Array Value} {below : List Frame} {meth : Method} {c : Code} {dC : Nat → ClassId} {dI : Nat → Nat → Nat} {kA : Nat → ClassId} {ad : Nat → Nat} (C : jxc cX12_sendsOn none 3 RX12 p s m args meth c dC dI kA) (hap : jw_ap 32 ad) {res : RS} {k12 : RS → Int32 → Int32 → Option (RS)} (hk12 : G_rX12_sendsOn_b12 p l e s m args below meth c dC dI kA ad res k12) : G_rX12_sendsOn_b109 p l e s m args below meth c dC dI kA ad res (s_rX12_sendsOn_b109 k12) := by
  obtain ⟨hx, hb, hml, hown, hts, hr, hlocks, hK, hN⟩ := id C
  intro σ x1 x2 hf H locs ls hP hS hl
  unfold s_rX12_sendsOn_b109 at hf
  obtain ⟨v1, e_v1, hf⟩ := kn_v_e hf
  refine lv_iinc (v := v1) (lv' := [(2, .int v1), (0, .ref (ad 0)), (1, .int x1)]) hx hb dX12_sendsOn_109 hl (k := 2) rfl e_v1 (by decide) rfl (fun ls hl => ?_)
  refine lv_goto (tgt := 12) hx hb dX12_sendsOn_112 (by decide) ?_
  exact hk12 σ x1 v1 hf H locs ls hP hS (lv_sub hl [1, 2, 0] rfl)
def s_rX12_sendsOn_b12 (k12 : RS → Int32 → Int32 → Option (RS)) (σ : RS) (x1 : Int32) (x2 : Int32) : Option (RS) := if (rg_I σ 2) ≤ x2 then some σ else (kn_i (s_rX12_isFailed σ) (fun v1 σ2 => if v1 = 0 then (kn_ld (rg_A σ2 5) 40 x2 (fun v3 => if v3 = x1 then (kn_u (s_rX12_askArc σ2 x2) (fun σ5 => if (rg_I σ5 16) = 0 then (s_rX12_sendsOn_b109 k12 σ5 x1 x2) else (kn_i (s_rX12_isFailed σ5) (fun v6 σ7 => if v6 = 0 then (if (rg_I σ7 17) = 60 then (kn_u (s_rX12_note σ7 5 1 x1 x2) (fun σ12 => s_rX12_sendsOn_b109 k12 σ12 x1 x2)) else (kn_st (rs_A σ7 18 (upd (rg_A σ7 18) (rg_I σ7 17).toNatClampNeg x2)) 64 (rg_I σ7 17) (fun σ8 => kn_st (rs_B σ8 10 (vp_updL (rg_B σ8 10) (rg_I σ8 17).toNatClampNeg (rg_L σ8 3))) 64 (rg_I σ8 17) (fun σ9 => kn_v (rs_I σ9 17 ((rg_I σ9 17) + 1)) (fun σ10 => s_rX12_sendsOn_b109 k12 σ10 x1 x2))))) else (s_rX12_sendsOn_b109 k12 σ7 x1 x2))))) else (s_rX12_sendsOn_b109 k12 σ2 x1 x2))) else some σ2))
set_option maxRecDepth 100000 in
set_option maxHeartbeats 4000000 in
theorem p_rX12_sendsOn_b12 {p : Program} {l : Launch} {e : Env} {s : State} {m : MethodId} {args : Array Value} {below : List Frame} {meth : Method} {c : Code} {dC : Nat → ClassId} {dI : Nat → Nat → Nat} {kA : Nat → ClassId} {ad : Nat → Nat} (C : jxc cX12_sendsOn none 3 RX12 p s m args meth c dC dI kA) (hap : jw_ap 32 ad) {res : RS} {k12 : RS → Int32 → Int32 → Option (RS)} (hk12 : G_rX12_sendsOn_b12 p l e s m args below meth c dC dI kA ad res k12) : G_rX12_sendsOn_b12 p l e s m args below meth c dC dI kA ad res (s_rX12_sendsOn_b12 k12) := by
  obtain ⟨hx, hb, hml, hown, hts, hr, hlocks, hK, hN⟩ := id C
  intro σ x1 x2 hf H locs ls hP hS hl
  unfold s_rX12_sendsOn_b12 at hf
  refine lv_iload_n hx hb dX12_sendsOn_12 rfl (lv_at hl 2 rfl) ?_
  refine lv_aload_n hx hb dX12_sendsOn_13 rfl (lv_at hl 0 rfl) ?_
  refine r_gX12_arcs hx hb hts hown hK hP (hts _ kw_768) dX12_sendsOn_14 ?_
  refine jc_ge (tgt := 115) hx hb hf dX12_sendsOn_17 (by decide) (fun hf => ?_) (fun hf => ?_)
  · exact jr_u hx hb hr hlocks hf hP hS dX12_sendsOn_115
  · refine lv_aload_n hx hb dX12_sendsOn_20 rfl (lv_at hl 0 rfl) ?_
    refine jk_i hf (fun res hres => jv_run hx hb hml hown hts hK hN r_hG r_hNW hl.1 (n := 0) (As := []) (rest := []) (c_rX12_isFailed l hap σ res hres) hP (ci := 12) (q0 := 0) rfl rfl rfl kw_974 kw_971 kw_973 kw_28 kw_64 ⟨rfl, rfl⟩ (by decide +kernel) rfl ⟨Nat.le_of_ble_eq_true rfl, Nat.le_of_ble_eq_true rfl⟩ rfl (Nat.le_of_ble_eq_true rfl) dX12_sendsOn_21) hS (fun v1 σ2 H locs hP hS hf => ?_)
    refine jb_ne (tgt := 115) hx hb hf dX12_sendsOn_24 (by decide) (fun hf => ?_) (fun hf => ?_)
    · exact jr_u hx hb hr hlocks hf hP hS dX12_sendsOn_115
    · refine lv_aload_n hx hb dX12_sendsOn_27 rfl (lv_at hl 0 rfl) ?_
      refine r_gX12_from hx hb hts hown hK hP (hts _ kw_769) dX12_sendsOn_28 ?_
      refine lv_iload_n hx hb dX12_sendsOn_31 rfl (lv_at hl 2 rfl) ?_
      refine ja_ild hx hb hK hP 8 0 rfl rfl hf dX12_sendsOn_32 (fun v3 hf => ?_)
      refine lv_iload_n hx hb dX12_sendsOn_33 rfl (lv_at hl 1 rfl) ?_
      refine jc_ne (tgt := 109) hx hb hf dX12_sendsOn_34 (by decide) (fun hf => ?_) (fun hf => ?_)
      · exact (p_rX12_sendsOn_b109 C hap hk12) σ2 x1 x2 hf H locs ls hP hS (lv_sub hl [0, 1, 2] rfl)
      · refine lv_aload_n hx hb dX12_sendsOn_37 rfl (lv_at hl 0 rfl) ?_
        refine lv_iload_n hx hb dX12_sendsOn_38 rfl (lv_at hl 2 rfl) ?_
        refine jk_u hf (fun res hres => jv_run hx hb hml hown hts hK hN r_hG r_hNW hl.1 (n := 1) (As := [.int x2]) (rest := []) (c_rX12_askArc l hap σ2 x2 res hres) hP (ci := 12) (q0 := 0) rfl rfl rfl kw_982 kw_979 kw_981 kw_30 kw_64 ⟨rfl, rfl⟩ (by decide +kernel) rfl ⟨Nat.le_of_ble_eq_true rfl, Nat.le_of_ble_eq_true rfl⟩ rfl (Nat.le_of_ble_eq_true rfl) dX12_sendsOn_39) hS (fun σ5 H locs hP hS hf => ?_)
        refine lv_aload_n hx hb dX12_sendsOn_42 rfl (lv_at hl 0 rfl) ?_
        refine r_gX12_sends hx hb hts hown hK hP (hts _ kw_802) dX12_sendsOn_43 ?_
        refine jb_eq (tgt := 109) hx hb hf dX12_sendsOn_46 (by decide) (fun hf => ?_) (fun hf => ?_)
        · exact (p_rX12_sendsOn_b109 C hap hk12) σ5 x1 x2 hf H locs ls hP hS (lv_sub hl [0, 1, 2] rfl)
        · refine lv_aload_n hx hb dX12_sendsOn_49 rfl (lv_at hl 0 rfl) ?_
          refine jk_i hf (fun res hres => jv_run hx hb hml hown hts hK hN r_hG r_hNW hl.1 (n := 0) (As := []) (rest := []) (c_rX12_isFailed l hap σ5 res hres) hP (ci := 12) (q0 := 0) rfl rfl rfl kw_974 kw_971 kw_973 kw_28 kw_64 ⟨rfl, rfl⟩ (by decide +kernel) rfl ⟨Nat.le_of_ble_eq_true rfl, Nat.le_of_ble_eq_true rfl⟩ rfl (Nat.le_of_ble_eq_true rfl) dX12_sendsOn_50) hS (fun v6 σ7 H locs hP hS hf => ?_)
          refine jb_ne (tgt := 109) hx hb hf dX12_sendsOn_53 (by decide) (fun hf => ?_) (fun hf => ?_)
          · exact (p_rX12_sendsOn_b109 C hap hk12) σ7 x1 x2 hf H locs ls hP hS (lv_sub hl [0, 1, 2] rfl)
          · refine lv_aload_n hx hb dX12_sendsOn_56 rfl (lv_at hl 0 rfl) ?_
            refine r_gX12_waiting hx hb hts hown hK hP (hts _ kw_808) dX12_sendsOn_57 ?_
            refine lv_bipush (v := 60) hx hb dX12_sendsOn_60 (by decide) ?_
            refine jc_ne (tgt := 76) hx hb hf dX12_sendsOn_62 (by decide) (fun hf => ?_) (fun hf => ?_)
            · refine lv_aload_n hx hb dX12_sendsOn_76 rfl (lv_at hl 0 rfl) ?_
              refine r_gX12_lineArcs hx hb hts hown hK hP (hts _ kw_809) dX12_sendsOn_77 ?_
              refine lv_aload_n hx hb dX12_sendsOn_80 rfl (lv_at hl 0 rfl) ?_
              refine r_gX12_waiting hx hb hts hown hK hP (hts _ kw_808) dX12_sendsOn_81 ?_
              refine lv_iload_n hx hb dX12_sendsOn_84 rfl (lv_at hl 2 rfl) ?_
              refine ja_ist hx hb hK (r_D hap σ7) hP hS 29 0 rfl rfl r_sA18 hf dX12_sendsOn_85 (fun σ8 H locs hP hS hf => ?_)
              refine lv_aload_n hx hb dX12_sendsOn_86 rfl (lv_at hl 0 rfl) ?_
              refine r_gX12_line hx hb hts hown hK hP (hts _ kw_810) dX12_sendsOn_87 ?_
              refine lv_aload_n hx hb dX12_sendsOn_90 rfl (lv_at hl 0 rfl) ?_
              refine r_gX12_waiting hx hb hts hown hK hP (hts _ kw_808) dX12_sendsOn_91 ?_
              refine lv_aload_n hx hb dX12_sendsOn_94 rfl (lv_at hl 0 rfl) ?_
              refine r_gX12_message hx hb hts hown hK hP (hts _ kw_803) dX12_sendsOn_95 ?_
              refine ja_lst hx hb hK (r_D hap σ8) hP hS 30 1 rfl rfl r_sB10 hf dX12_sendsOn_98 (fun σ9 H locs hP hS hf => ?_)
              refine lv_aload_n hx hb dX12_sendsOn_99 rfl (lv_at hl 0 rfl) ?_
              refine lv_dup hx hb dX12_sendsOn_100 rfl ?_
              refine r_gX12_waiting hx hb hts hown hK hP (hts _ kw_808) dX12_sendsOn_101 ?_
              refine lv_iconst (v := 1) hx hb dX12_sendsOn_104 (by decide) ?_
              refine lv_iadd hx hb dX12_sendsOn_105 ?_
              refine r_pX12_waiting hx hb hts hown hK hap hP hS hf (hts _ kw_808) dX12_sendsOn_106 (fun σ10 H locs hP hS hf => ?_)
              exact (p_rX12_sendsOn_b109 C hap hk12) σ10 x1 x2 hf H locs ls hP hS (lv_sub hl [0, 1, 2] rfl)
            · refine lv_aload_n hx hb dX12_sendsOn_65 rfl (lv_at hl 0 rfl) ?_
              refine lv_iconst (v := 5) hx hb dX12_sendsOn_66 (by decide) ?_
              refine lv_iconst (v := 1) hx hb dX12_sendsOn_67 (by decide) ?_
              refine lv_iload_n hx hb dX12_sendsOn_68 rfl (lv_at hl 1 rfl) ?_
              refine lv_iload_n hx hb dX12_sendsOn_69 rfl (lv_at hl 2 rfl) ?_
              refine jk_u hf (fun res hres => jv_run hx hb hml hown hts hK hN r_hG r_hNW hl.1 (n := 4) (As := [.int 5, .int 1, .int x1, .int x2]) (rest := []) (c_rX12_note l hap σ7 5 1 x1 x2 res hres) hP (ci := 12) (q0 := 0) rfl rfl rfl kw_1014 kw_1011 kw_1013 kw_38 kw_64 ⟨rfl, rfl⟩ (by decide +kernel) rfl ⟨Nat.le_of_ble_eq_true rfl, Nat.le_of_ble_eq_true rfl⟩ rfl (Nat.le_of_ble_eq_true rfl) dX12_sendsOn_70) hS (fun σ12 H locs hP hS hf => ?_)
              refine lv_goto (tgt := 109) hx hb dX12_sendsOn_73 (by decide) ?_
              exact (p_rX12_sendsOn_b109 C hap hk12) σ12 x1 x2 hf H locs ls hP hS (lv_sub hl [0, 1, 2] rfl)
def f_rX12_sendsOn_b12 : RS → Int32 → Int32 → Option (RS) := kn_fix (fun _ _ _ => none) (s_rX12_sendsOn_b12) FU
theorem q_rX12_sendsOn_b12 {p : Program} {l : Launch} {e : Env} {s : State} {m : MethodId} {args : Array Value} {below : List Frame} {meth : Method} {c : Code} {dC : Nat → ClassId} {dI : Nat → Nat → Nat} {kA : Nat → ClassId} {ad : Nat → Nat} (C : jxc cX12_sendsOn none 3 RX12 p s m args meth c dC dI kA) (hap : jw_ap 32 ad) {res : RS} : G_rX12_sendsOn_b12 p l e s m args below meth c dC dI kA ad res (f_rX12_sendsOn_b12) := kn_fix_ind (G := fun F => G_rX12_sendsOn_b12 p l e s m args below meth c dC dI kA ad res F) (fun _ _ _ hf => by cases hf) (fun k12 hk12 => p_rX12_sendsOn_b12 C hap hk12) FU
def s_rX12_sendsOn (σ : RS) (x1 : Int32) : Option (RS) := kn_v (rs_L σ 2 0) (fun σ1 => kn_v (rs_I σ1 14 0) (fun σ2 => f_rX12_sendsOn_b12 σ2 x1 0))
set_option maxRecDepth 100000 in
set_option maxHeartbeats 4000000 in
theorem p_rX12_sendsOn {p : Program} {l : Launch} {e : Env} {s : State} {m : MethodId} {args : Array Value} {below : List Frame} {meth : Method} {c : Code} {dC : Nat → ClassId} {dI : Nat → Nat → Nat} {kA : Nat → ClassId} {ad : Nat → Nat} (C : jxc cX12_sendsOn none 3 RX12 p s m args meth c dC dI kA) (hap : jw_ap 32 ad) {res : RS} : G_rX12_sendsOn p l e s m args below meth c dC dI kA ad res (s_rX12_sendsOn) := by
  obtain ⟨hx, hb, hml, hown, hts, hr, hlocks, hK, hN⟩ := id C
  intro σ x1 hf H locs ls hP hS hl
  unfold s_rX12_sendsOn at hf
  refine lv_aload_n hx hb dX12_sendsOn_0 rfl (lv_at hl 0 rfl) ?_
  refine lv_lconst (v := 0) hx hb dX12_sendsOn_1 (by decide) ?_
  refine r_pX12_folded hx hb hts hown hK hap hP hS hf (hts _ kw_796) dX12_sendsOn_2 (fun σ1 H locs hP hS hf => ?_)
  refine lv_aload_n hx hb dX12_sendsOn_5 rfl (lv_at hl 0 rfl) ?_
  refine lv_iconst (v := 0) hx hb dX12_sendsOn_6 (by decide) ?_
  refine r_pX12_many hx hb hts hown hK hap hP hS hf (hts _ kw_797) dX12_sendsOn_7 (fun σ2 H locs hP hS hf => ?_)
  refine lv_iconst (v := 0) hx hb dX12_sendsOn_10 (by decide) ?_
  refine lv_istore_n (lv' := [(2, .int 0), (0, .ref (ad 0)), (1, .int x1)]) hx hb dX12_sendsOn_11 rfl hl (by decide) rfl (fun ls hl => ?_)
  exact (q_rX12_sendsOn_b12 C hap) σ2 x1 0 hf H locs ls hP hS (lv_sub hl [1, 2, 0] rfl)
theorem c_rX12_sendsOn (l : Launch) {dC : Nat → ClassId} {dI : Nat → Nat → Nat} {kA : Nat → ClassId} {ad : Nat → Nat} (hap : jw_ap 32 ad) (σ : RS) (x1 : Int32) (res : RS) (hf : s_rX12_sendsOn σ x1 = some res) : jm_u l KW NW (dC, dI) vwCl (jtys kA) (jw_A 32 ad) (r_w kA ad) yX12_sendsOn cX12_sendsOn 3 (rm_rX12_sendsOn) [.ref (ad 0), .int x1] σ res := jm_u_of (by decide) (Nat.le_of_ble_eq_true rfl) (fun p e s m below meth c C hP hS ls hl => p_rX12_sendsOn C hap σ x1 hf s.heap [] ls hP hS hl)

def rm_rX12_takes : Room := { frames := 6, cells := 0, slots := 0, locals := 141 }
def G_rX12_takes_b313 (p : Program) (l : Launch) (e : Env) (s : State) (m : MethodId) (args : Array Value) (below : List Frame) (meth : Method) (c : Code) (dC : Nat → ClassId) (dI : Nat → Nat → Nat) (kA : Nat → ClassId) (ad : Nat → Nat) (res : Int32 × RS) (F : RS → Int32 → Int32 → Option (Int32 × RS)) : Prop := ∀ (σ : RS) (x5 : Int32) (x7 : Int32), F σ x5 x7 = some res → ∀ (H : Heap) (locs : List Loc) (ls : Array Slot), va_P (dC, dI) vwCl (r_w kA ad σ) H → va_S (jw_A 32 ad) s.heap H locs → lv_has ls 8 [(0, .ref (ad 0)), (5, .int x5), (7, .int x7)] → W p l e rm_rX12_takes s m args below meth c H locs 0 0 (r_Qi below dC dI kA ad args s res) (F0 m 313 ls [])
def G_rX12_takes_b303 (p : Program) (l : Launch) (e : Env) (s : State) (m : MethodId) (args : Array Value) (below : List Frame) (meth : Method) (c : Code) (dC : Nat → ClassId) (dI : Nat → Nat → Nat) (kA : Nat → ClassId) (ad : Nat → Nat) (res : Int32 × RS) (F : RS → Int32 → Int32 → Int64 → Int32 → Option (Int32 × RS)) : Prop := ∀ (σ : RS) (x1 : Int32) (x2 : Int32) (x3 : Int64) (x5 : Int32), F σ x1 x2 x3 x5 = some res → ∀ (H : Heap) (locs : List Loc) (ls : Array Slot), va_P (dC, dI) vwCl (r_w kA ad σ) H → va_S (jw_A 32 ad) s.heap H locs → lv_has ls 8 [(0, .ref (ad 0)), (1, .int x1), (2, .int x2), (3, .long x3), (5, .int x5)] → W p l e rm_rX12_takes s m args below meth c H locs 0 0 (r_Qi below dC dI kA ad args s res) (F0 m 303 ls [])
def G_rX12_takes_b283 (p : Program) (l : Launch) (e : Env) (s : State) (m : MethodId) (args : Array Value) (below : List Frame) (meth : Method) (c : Code) (dC : Nat → ClassId) (dI : Nat → Nat → Nat) (kA : Nat → ClassId) (ad : Nat → Nat) (res : Int32 × RS) (F : RS → Int32 → Int32 → Int64 → Int32 → Int32 → Option (Int32 × RS)) : Prop := ∀ (σ : RS) (x1 : Int32) (x2 : Int32) (x3 : Int64) (x5 : Int32) (s0 : Int32), F σ x1 x2 x3 x5 s0 = some res → ∀ (H : Heap) (locs : List Loc) (ls : Array Slot), va_P (dC, dI) vwCl (r_w kA ad σ) H → va_S (jw_A 32 ad) s.heap H locs → lv_has ls 8 [(0, .ref (ad 0)), (1, .int x1), (2, .int x2), (3, .long x3), (5, .int x5)] → W p l e rm_rX12_takes s m args below meth c H locs 0 0 (r_Qi below dC dI kA ad args s res) (F0 m 283 ls [.int s0])
def G_rX12_takes_b282 (p : Program) (l : Launch) (e : Env) (s : State) (m : MethodId) (args : Array Value) (below : List Frame) (meth : Method) (c : Code) (dC : Nat → ClassId) (dI : Nat → Nat → Nat) (kA : Nat → ClassId) (ad : Nat → Nat) (res : Int32 × RS) (F : RS → Int32 → Int32 → Int64 → Int32 → Option (Int32 × RS)) : Prop := ∀ (σ : RS) (x1 : Int32) (x2 : Int32) (x3 : Int64) (x5 : Int32), F σ x1 x2 x3 x5 = some res → ∀ (H : Heap) (locs : List Loc) (ls : Array Slot), va_P (dC, dI) vwCl (r_w kA ad σ) H → va_S (jw_A 32 ad) s.heap H locs → lv_has ls 8 [(0, .ref (ad 0)), (1, .int x1), (2, .int x2), (3, .long x3), (5, .int x5)] → W p l e rm_rX12_takes s m args below meth c H locs 0 0 (r_Qi below dC dI kA ad args s res) (F0 m 282 ls [])
def G_rX12_takes_b248 (p : Program) (l : Launch) (e : Env) (s : State) (m : MethodId) (args : Array Value) (below : List Frame) (meth : Method) (c : Code) (dC : Nat → ClassId) (dI : Nat → Nat → Nat) (kA : Nat → ClassId) (ad : Nat → Nat) (res : Int32 × RS) (F : RS → Int32 → Int32 → Int64 → Int32 → Option (Int32 × RS)) : Prop := ∀ (σ : RS) (x1 : Int32) (x2 : Int32) (x3 : Int64) (x5 : Int32), F σ x1 x2 x3 x5 = some res → ∀ (H : Heap) (locs : List Loc) (ls : Array Slot), va_P (dC, dI) vwCl (r_w kA ad σ) H → va_S (jw_A 32 ad) s.heap H locs → lv_has ls 8 [(0, .ref (ad 0)), (1, .int x1), (2, .int x2), (3, .long x3), (5, .int x5)] → W p l e rm_rX12_takes s m args below meth c H locs 0 0 (r_Qi below dC dI kA ad args s res) (F0 m 248 ls [])
def G_rX12_takes_b217 (p : Program) (l : Launch) (e : Env) (s : State) (m : MethodId) (args : Array Value) (below : List Frame) (meth : Method) (c : Code) (dC : Nat → ClassId) (dI : Nat → Nat → Nat) (kA : Nat → ClassId) (ad : Nat → Nat) (res : Int32 × RS) (F : RS → Int32 → Int32 → Int64 → Int32 → Int32 → Option (Int32 × RS)) : Prop := ∀ (σ : RS) (x1 : Int32) (x2 : Int32) (x3 : Int64) (x5 : Int32) (x6 : Int32), F σ x1 x2 x3 x5 x6 = some res → ∀ (H : Heap) (locs : List Loc) (ls : Array Slot), va_P (dC, dI) vwCl (r_w kA ad σ) H → va_S (jw_A 32 ad) s.heap H locs → lv_has ls 8 [(0, .ref (ad 0)), (1, .int x1), (2, .int x2), (3, .long x3), (5, .int x5), (6, .int x6)] → W p l e rm_rX12_takes s m args below meth c H locs 0 0 (r_Qi below dC dI kA ad args s res) (F0 m 217 ls [])
def G_rX12_takes_b205 (p : Program) (l : Launch) (e : Env) (s : State) (m : MethodId) (args : Array Value) (below : List Frame) (meth : Method) (c : Code) (dC : Nat → ClassId) (dI : Nat → Nat → Nat) (kA : Nat → ClassId) (ad : Nat → Nat) (res : Int32 × RS) (F : RS → Int32 → Int32 → Int64 → Int32 → Option (Int32 × RS)) : Prop := ∀ (σ : RS) (x1 : Int32) (x2 : Int32) (x3 : Int64) (x5 : Int32), F σ x1 x2 x3 x5 = some res → ∀ (H : Heap) (locs : List Loc) (ls : Array Slot), va_P (dC, dI) vwCl (r_w kA ad σ) H → va_S (jw_A 32 ad) s.heap H locs → lv_has ls 8 [(0, .ref (ad 0)), (1, .int x1), (2, .int x2), (3, .long x3), (5, .int x5)] → W p l e rm_rX12_takes s m args below meth c H locs 0 0 (r_Qi below dC dI kA ad args s res) (F0 m 205 ls [])
def G_rX12_takes_b199 (p : Program) (l : Launch) (e : Env) (s : State) (m : MethodId) (args : Array Value) (below : List Frame) (meth : Method) (c : Code) (dC : Nat → ClassId) (dI : Nat → Nat → Nat) (kA : Nat → ClassId) (ad : Nat → Nat) (res : Int32 × RS) (F : RS → Int32 → Int32 → Int64 → Int32 → Int32 → Option (Int32 × RS)) : Prop := ∀ (σ : RS) (x1 : Int32) (x2 : Int32) (x3 : Int64) (x5 : Int32) (x6 : Int32), F σ x1 x2 x3 x5 x6 = some res → ∀ (H : Heap) (locs : List Loc) (ls : Array Slot), va_P (dC, dI) vwCl (r_w kA ad σ) H → va_S (jw_A 32 ad) s.heap H locs → lv_has ls 8 [(0, .ref (ad 0)), (1, .int x1), (2, .int x2), (3, .long x3), (5, .int x5), (6, .int x6)] → W p l e rm_rX12_takes s m args below meth c H locs 0 0 (r_Qi below dC dI kA ad args s res) (F0 m 199 ls [])
def G_rX12_takes_b148 (p : Program) (l : Launch) (e : Env) (s : State) (m : MethodId) (args : Array Value) (below : List Frame) (meth : Method) (c : Code) (dC : Nat → ClassId) (dI : Nat → Nat → Nat) (kA : Nat → ClassId) (ad : Nat → Nat) (res : Int32 × RS) (F : RS → Int32 → Int32 → Int64 → Int32 → Int32 → Option (Int32 × RS)) : Prop := ∀ (σ : RS) (x1 : Int32) (x2 : Int32) (x3 : Int64) (x5 : Int32) (x6 : Int32), F σ x1 x2 x3 x5 x6 = some res → ∀ (H : Heap) (locs : List Loc) (ls : Array Slot), va_P (dC, dI) vwCl (r_w kA ad σ) H → va_S (jw_A 32 ad) s.heap H locs → lv_has ls 8 [(0, .ref (ad 0)), (1, .int x1), (2, .int x2), (3, .long x3), (5, .int x5), (6, .int x6)] → W p l e rm_rX12_takes s m args below meth c H locs 0 0 (r_Qi below dC dI kA ad args s res) (F0 m 148 ls [])
def G_rX12_takes_b145 (p : Program) (l : Launch) (e : Env) (s : State) (m : MethodId) (args : Array Value) (below : List Frame) (meth : Method) (c : Code) (dC : Nat → ClassId) (dI : Nat → Nat → Nat) (kA : Nat → ClassId) (ad : Nat → Nat) (res : Int32 × RS) (F : RS → Int32 → Int32 → Int64 → Int32 → Option (Int32 × RS)) : Prop := ∀ (σ : RS) (x1 : Int32) (x2 : Int32) (x3 : Int64) (x5 : Int32), F σ x1 x2 x3 x5 = some res → ∀ (H : Heap) (locs : List Loc) (ls : Array Slot), va_P (dC, dI) vwCl (r_w kA ad σ) H → va_S (jw_A 32 ad) s.heap H locs → lv_has ls 8 [(0, .ref (ad 0)), (1, .int x1), (2, .int x2), (3, .long x3), (5, .int x5)] → W p l e rm_rX12_takes s m args below meth c H locs 0 0 (r_Qi below dC dI kA ad args s res) (F0 m 145 ls [])
def G_rX12_takes_b95 (p : Program) (l : Launch) (e : Env) (s : State) (m : MethodId) (args : Array Value) (below : List Frame) (meth : Method) (c : Code) (dC : Nat → ClassId) (dI : Nat → Nat → Nat) (kA : Nat → ClassId) (ad : Nat → Nat) (res : Int32 × RS) (F : RS → Int32 → Int32 → Int64 → Int32 → Int32 → Option (Int32 × RS)) : Prop := ∀ (σ : RS) (x1 : Int32) (x2 : Int32) (x3 : Int64) (x5 : Int32) (x6 : Int32), F σ x1 x2 x3 x5 x6 = some res → ∀ (H : Heap) (locs : List Loc) (ls : Array Slot), va_P (dC, dI) vwCl (r_w kA ad σ) H → va_S (jw_A 32 ad) s.heap H locs → lv_has ls 8 [(0, .ref (ad 0)), (1, .int x1), (2, .int x2), (3, .long x3), (5, .int x5), (6, .int x6)] → W p l e rm_rX12_takes s m args below meth c H locs 0 0 (r_Qi below dC dI kA ad args s res) (F0 m 95 ls [])
def G_rX12_takes_b74 (p : Program) (l : Launch) (e : Env) (s : State) (m : MethodId) (args : Array Value) (below : List Frame) (meth : Method) (c : Code) (dC : Nat → ClassId) (dI : Nat → Nat → Nat) (kA : Nat → ClassId) (ad : Nat → Nat) (res : Int32 × RS) (F : RS → Int32 → Int32 → Int64 → Option (Int32 × RS)) : Prop := ∀ (σ : RS) (x1 : Int32) (x2 : Int32) (x3 : Int64), F σ x1 x2 x3 = some res → ∀ (H : Heap) (locs : List Loc) (ls : Array Slot), va_P (dC, dI) vwCl (r_w kA ad σ) H → va_S (jw_A 32 ad) s.heap H locs → lv_has ls 8 [(0, .ref (ad 0)), (1, .int x1), (2, .int x2), (3, .long x3)] → W p l e rm_rX12_takes s m args below meth c H locs 0 0 (r_Qi below dC dI kA ad args s res) (F0 m 74 ls [])
def G_rX12_takes_b27 (p : Program) (l : Launch) (e : Env) (s : State) (m : MethodId) (args : Array Value) (below : List Frame) (meth : Method) (c : Code) (dC : Nat → ClassId) (dI : Nat → Nat → Nat) (kA : Nat → ClassId) (ad : Nat → Nat) (res : Int32 × RS) (F : RS → Int32 → Int32 → Int64 → Int32 → Option (Int32 × RS)) : Prop := ∀ (σ : RS) (x1 : Int32) (x2 : Int32) (x3 : Int64) (x5 : Int32), F σ x1 x2 x3 x5 = some res → ∀ (H : Heap) (locs : List Loc) (ls : Array Slot), va_P (dC, dI) vwCl (r_w kA ad σ) H → va_S (jw_A 32 ad) s.heap H locs → lv_has ls 8 [(0, .ref (ad 0)), (1, .int x1), (2, .int x2), (3, .long x3), (5, .int x5)] → W p l e rm_rX12_takes s m args below meth c H locs 0 0 (r_Qi below dC dI kA ad args s res) (F0 m 27 ls [])
def G_rX12_takes (p : Program) (l : Launch) (e : Env) (s : State) (m : MethodId) (args : Array Value) (below : List Frame) (meth : Method) (c : Code) (dC : Nat → ClassId) (dI : Nat → Nat → Nat) (kA : Nat → ClassId) (ad : Nat → Nat) (res : Int32 × RS) (F : RS → Int32 → Option (Int32 × RS)) : Prop := ∀ (σ : RS) (x1 : Int32), F σ x1 = some res → ∀ (H : Heap) (locs : List Loc) (ls : Array Slot), va_P (dC, dI) vwCl (r_w kA ad σ) H → va_S (jw_A 32 ad) s.heap H locs → lv_has ls 8 [(0, .ref (ad 0)), (1, .int x1)] → W p l e rm_rX12_takes s m args below meth c H locs 0 0 (r_Qi below dC dI kA ad args s res) (F0 m 0 ls [])
def s_rX12_takes_b313 (k313 : RS → Int32 → Int32 → Option (Int32 × RS)) (σ : RS) (x5 : Int32) (x7 : Int32) : Option (Int32 × RS) := if 3 ≤ x7 then (some (0, σ)) else (kn_ld (rg_B σ 11) 3 x7 (fun v1 => kn_st (rs_B σ 1 (vp_updL (rg_B σ 1) ((3 * x5) + x7).toNatClampNeg v1)) 36 ((3 * x5) + x7) (fun σ2 => kn_v (x7 + 1) (fun v3 => k313 σ2 x5 v3))))
set_option maxRecDepth 100000 in
set_option maxHeartbeats 4000000 in
theorem p_rX12_takes_b313 {p : Program} {l : Launch} {e : Env} {s : State} {m : MethodId} {args : Array Value} {below : List Frame} {meth : Method} {c : Code} {dC : Nat → ClassId} {dI : Nat → Nat → Nat} {kA : Nat → ClassId} {ad : Nat → Nat} (C : jxc cX12_takes (some .boolean) 8 RX12 p s m args meth c dC dI kA) (hap : jw_ap 32 ad) {res : Int32 × RS} {k313 : RS → Int32 → Int32 → Option (Int32 × RS)} (hk313 : G_rX12_takes_b313 p l e s m args below meth c dC dI kA ad res k313) : G_rX12_takes_b313 p l e s m args below meth c dC dI kA ad res (s_rX12_takes_b313 k313) := by
  obtain ⟨hx, hb, hml, hown, hts, hr, hlocks, hK, hN⟩ := id C
  intro σ x5 x7 hf H locs ls hP hS hl
  unfold s_rX12_takes_b313 at hf
  refine lv_iload hx hb dX12_takes_313 (lv_at hl 2 rfl) ?_
  refine lv_iconst (v := 3) hx hb dX12_takes_315 (by decide) ?_
  refine jc_ge (tgt := 344) hx hb hf dX12_takes_316 (by decide) (fun hf => ?_) (fun hf => ?_)
  · refine lv_iconst (v := 0) hx hb dX12_takes_344 (by decide) ?_
    exact jr_i hx hb hr hlocks hf (by decide) hP hS dX12_takes_345
  · refine lv_aload_n hx hb dX12_takes_319 rfl (lv_at hl 0 rfl) ?_
    refine r_gX12_states hx hb hts hown hK hP (hts _ kw_766) dX12_takes_320 ?_
    refine lv_iconst (v := 3) hx hb dX12_takes_323 (by decide) ?_
    refine lv_iload hx hb dX12_takes_324 (lv_at hl 1 rfl) ?_
    refine lv_imul hx hb dX12_takes_326 ?_
    refine lv_iload hx hb dX12_takes_327 (lv_at hl 2 rfl) ?_
    refine lv_iadd hx hb dX12_takes_329 ?_
    refine lv_aload_n hx hb dX12_takes_330 rfl (lv_at hl 0 rfl) ?_
    refine r_gX12_takenStates hx hb hts hown hK hP (hts _ kw_811) dX12_takes_331 ?_
    refine lv_iload hx hb dX12_takes_334 (lv_at hl 2 rfl) ?_
    refine ja_lld hx hb hK hP 31 1 rfl rfl hf dX12_takes_336 (fun v1 hf => ?_)
    refine ja_lst hx hb hK (r_D hap σ) hP hS 6 1 rfl rfl r_sB1 hf dX12_takes_337 (fun σ2 H locs hP hS hf => ?_)
    obtain ⟨v3, e_v3, hf⟩ := kn_v_e hf
    refine lv_iinc (v := v3) (lv' := [(7, .int v3), (0, .ref (ad 0)), (5, .int x5)]) hx hb dX12_takes_338 hl (k := 2) rfl e_v3 (by decide) rfl (fun ls hl => ?_)
    refine lv_goto (tgt := 313) hx hb dX12_takes_341 (by decide) ?_
    exact hk313 σ2 x5 v3 hf H locs ls hP hS (lv_sub hl [1, 2, 0] rfl)
def f_rX12_takes_b313 : RS → Int32 → Int32 → Option (Int32 × RS) := kn_fix (fun _ _ _ => none) (s_rX12_takes_b313) FU
theorem q_rX12_takes_b313 {p : Program} {l : Launch} {e : Env} {s : State} {m : MethodId} {args : Array Value} {below : List Frame} {meth : Method} {c : Code} {dC : Nat → ClassId} {dI : Nat → Nat → Nat} {kA : Nat → ClassId} {ad : Nat → Nat} (C : jxc cX12_takes (some .boolean) 8 RX12 p s m args meth c dC dI kA) (hap : jw_ap 32 ad) {res : Int32 × RS} : G_rX12_takes_b313 p l e s m args below meth c dC dI kA ad res (f_rX12_takes_b313) := kn_fix_ind (G := fun F => G_rX12_takes_b313 p l e s m args below meth c dC dI kA ad res F) (fun _ _ _ hf => by cases hf) (fun k313 hk313 => p_rX12_takes_b313 C hap hk313) FU
def s_rX12_takes_b303 (σ : RS) (x1 : Int32) (x2 : Int32) (x3 : Int64) (x5 : Int32) : Option (Int32 × RS) := kn_i (s_rX12_isFailed σ) (fun v1 σ2 => if v1 = 0 then (kn_st (rs_A σ2 11 (upd (rg_A σ2 11) x1.toNatClampNeg x2)) 200 x1 (fun σ3 => kn_st (rs_B σ3 5 (vp_updL (rg_B σ3 5) x1.toNatClampNeg x3)) 200 x1 (fun σ4 => some (1, σ4)))) else (f_rX12_takes_b313 σ2 x5 0))
set_option maxRecDepth 100000 in
set_option maxHeartbeats 4000000 in
theorem p_rX12_takes_b303 {p : Program} {l : Launch} {e : Env} {s : State} {m : MethodId} {args : Array Value} {below : List Frame} {meth : Method} {c : Code} {dC : Nat → ClassId} {dI : Nat → Nat → Nat} {kA : Nat → ClassId} {ad : Nat → Nat} (C : jxc cX12_takes (some .boolean) 8 RX12 p s m args meth c dC dI kA) (hap : jw_ap 32 ad) {res : Int32 × RS} : G_rX12_takes_b303 p l e s m args below meth c dC dI kA ad res (s_rX12_takes_b303) := by
  obtain ⟨hx, hb, hml, hown, hts, hr, hlocks, hK, hN⟩ := id C
  intro σ x1 x2 x3 x5 hf H locs ls hP hS hl
  unfold s_rX12_takes_b303 at hf
  refine lv_aload_n hx hb dX12_takes_303 rfl (lv_at hl 0 rfl) ?_
  refine jk_i hf (fun res hres => jv_run hx hb hml hown hts hK hN r_hG r_hNW hl.1 (n := 0) (As := []) (rest := []) (c_rX12_isFailed l hap σ res hres) hP (ci := 12) (q0 := 0) rfl rfl rfl kw_974 kw_971 kw_973 kw_28 kw_64 ⟨rfl, rfl⟩ (by decide +kernel) rfl ⟨Nat.le_of_ble_eq_true rfl, Nat.le_of_ble_eq_true rfl⟩ rfl (Nat.le_of_ble_eq_true rfl) dX12_takes_304) hS (fun v1 σ2 H locs hP hS hf => ?_)
  refine jb_eq (tgt := 346) hx hb hf dX12_takes_307 (by decide) (fun hf => ?_) (fun hf => ?_)
  · refine lv_aload_n hx hb dX12_takes_346 rfl (lv_at hl 0 rfl) ?_
    refine r_gX12_toldArcs hx hb hts hown hK hP (hts _ kw_785) dX12_takes_347 ?_
    refine lv_iload_n hx hb dX12_takes_350 rfl (lv_at hl 1 rfl) ?_
    refine lv_iload_n hx hb dX12_takes_351 rfl (lv_at hl 2 rfl) ?_
    refine ja_ist hx hb hK (r_D hap σ2) hP hS 17 0 rfl rfl r_sA11 hf dX12_takes_352 (fun σ3 H locs hP hS hf => ?_)
    refine lv_aload_n hx hb dX12_takes_353 rfl (lv_at hl 0 rfl) ?_
    refine r_gX12_toldMessages hx hb hts hown hK hP (hts _ kw_786) dX12_takes_354 ?_
    refine lv_iload_n hx hb dX12_takes_357 rfl (lv_at hl 1 rfl) ?_
    refine lv_lload_n hx hb dX12_takes_358 rfl (lv_at hl 3 rfl) ?_
    refine ja_lst hx hb hK (r_D hap σ3) hP hS 18 1 rfl rfl r_sB5 hf dX12_takes_359 (fun σ4 H locs hP hS hf => ?_)
    refine lv_iconst (v := 1) hx hb dX12_takes_360 (by decide) ?_
    exact jr_i hx hb hr hlocks hf (by decide) hP hS dX12_takes_361
  · refine lv_iconst (v := 0) hx hb dX12_takes_310 (by decide) ?_
    refine lv_istore (lv' := [(7, .int 0), (0, .ref (ad 0)), (1, .int x1), (2, .int x2), (3, .long x3), (5, .int x5)]) hx hb dX12_takes_311 hl (by decide) rfl (fun ls hl => ?_)
    exact (q_rX12_takes_b313 C hap) σ2 x5 0 hf H locs ls hP hS (lv_sub hl [1, 5, 0] rfl)
def s_rX12_takes_b283 (σ : RS) (x1 : Int32) (x2 : Int32) (x3 : Int64) (x5 : Int32) (s0 : Int32) : Option (Int32 × RS) := kn_i (s_rX12_isFailed σ) (fun v1 σ2 => if v1 = 0 then (if s0 = 0 then (kn_u (s_rX12_sendsOn σ2 x5) (fun σ4 => s_rX12_takes_b303 σ4 x1 x2 x3 x5)) else (s_rX12_takes_b303 σ2 x1 x2 x3 x5)) else (s_rX12_takes_b303 σ2 x1 x2 x3 x5))
set_option maxRecDepth 100000 in
set_option maxHeartbeats 4000000 in
theorem p_rX12_takes_b283 {p : Program} {l : Launch} {e : Env} {s : State} {m : MethodId} {args : Array Value} {below : List Frame} {meth : Method} {c : Code} {dC : Nat → ClassId} {dI : Nat → Nat → Nat} {kA : Nat → ClassId} {ad : Nat → Nat} (C : jxc cX12_takes (some .boolean) 8 RX12 p s m args meth c dC dI kA) (hap : jw_ap 32 ad) {res : Int32 × RS} : G_rX12_takes_b283 p l e s m args below meth c dC dI kA ad res (s_rX12_takes_b283) := by
  obtain ⟨hx, hb, hml, hown, hts, hr, hlocks, hK, hN⟩ := id C
  intro σ x1 x2 x3 x5 s0 hf H locs ls hP hS hl
  unfold s_rX12_takes_b283 at hf
  refine lv_istore (lv' := [(6, .int s0), (0, .ref (ad 0)), (1, .int x1), (2, .int x2), (3, .long x3), (5, .int x5)]) hx hb dX12_takes_283 hl (by decide) rfl (fun ls hl => ?_)
  refine lv_aload_n hx hb dX12_takes_285 rfl (lv_at hl 1 rfl) ?_
  refine jk_i hf (fun res hres => jv_run hx hb hml hown hts hK hN r_hG r_hNW hl.1 (n := 0) (As := []) (rest := []) (c_rX12_isFailed l hap σ res hres) hP (ci := 12) (q0 := 0) rfl rfl rfl kw_974 kw_971 kw_973 kw_28 kw_64 ⟨rfl, rfl⟩ (by decide +kernel) rfl ⟨Nat.le_of_ble_eq_true rfl, Nat.le_of_ble_eq_true rfl⟩ rfl (Nat.le_of_ble_eq_true rfl) dX12_takes_286) hS (fun v1 σ2 H locs hP hS hf => ?_)
  refine jb_ne (tgt := 303) hx hb hf dX12_takes_289 (by decide) (fun hf => ?_) (fun hf => ?_)
  · exact (p_rX12_takes_b303 C hap) σ2 x1 x2 x3 x5 hf H locs ls hP hS (lv_sub hl [1, 2, 3, 4, 5] rfl)
  · refine lv_iload hx hb dX12_takes_292 (lv_at hl 0 rfl) ?_
    refine jb_ne (tgt := 303) hx hb hf dX12_takes_294 (by decide) (fun hf => ?_) (fun hf => ?_)
    · exact (p_rX12_takes_b303 C hap) σ2 x1 x2 x3 x5 hf H locs ls hP hS (lv_sub hl [1, 2, 3, 4, 5] rfl)
    · refine lv_aload_n hx hb dX12_takes_297 rfl (lv_at hl 1 rfl) ?_
      refine lv_iload hx hb dX12_takes_298 (lv_at hl 5 rfl) ?_
      refine jk_u hf (fun res hres => jv_run hx hb hml hown hts hK hN r_hG r_hNW hl.1 (n := 1) (As := [.int x5]) (rest := []) (c_rX12_sendsOn l hap σ2 x5 res hres) hP (ci := 12) (q0 := 0) rfl rfl rfl kw_978 kw_975 kw_977 kw_29 kw_64 ⟨rfl, rfl⟩ (by decide +kernel) rfl ⟨Nat.le_of_ble_eq_true rfl, Nat.le_of_ble_eq_true rfl⟩ rfl (Nat.le_of_ble_eq_true rfl) dX12_takes_300) hS (fun σ4 H locs hP hS hf => ?_)
      exact (p_rX12_takes_b303 C hap) σ4 x1 x2 x3 x5 hf H locs ls hP hS (lv_sub hl [1, 2, 3, 4, 5] rfl)
def s_rX12_takes_b282 (σ : RS) (x1 : Int32) (x2 : Int32) (x3 : Int64) (x5 : Int32) : Option (Int32 × RS) := s_rX12_takes_b283 σ x1 x2 x3 x5 0
set_option maxRecDepth 100000 in
set_option maxHeartbeats 4000000 in
theorem p_rX12_takes_b282 {p : Program} {l : Launch} {e : Env} {s : State} {m : MethodId} {args : Array Value} {below : List Frame} {meth : Method} {c : Code} {dC : Nat → ClassId} {dI : Nat → Nat → Nat} {kA : Nat → ClassId} {ad : Nat → Nat} (C : jxc cX12_takes (some .boolean) 8 RX12 p s m args meth c dC dI kA) (hap : jw_ap 32 ad) {res : Int32 × RS} : G_rX12_takes_b282 p l e s m args below meth c dC dI kA ad res (s_rX12_takes_b282) := by
  obtain ⟨hx, hb, hml, hown, hts, hr, hlocks, hK, hN⟩ := id C
  intro σ x1 x2 x3 x5 hf H locs ls hP hS hl
  unfold s_rX12_takes_b282 at hf
  refine lv_iconst (v := 0) hx hb dX12_takes_282 (by decide) ?_
  exact (p_rX12_takes_b283 C hap) σ x1 x2 x3 x5 0 hf H locs ls hP hS (lv_sub hl [0, 1, 2, 3, 4] rfl)
def s_rX12_takes_b248 (σ : RS) (x1 : Int32) (x2 : Int32) (x3 : Int64) (x5 : Int32) : Option (Int32 × RS) := kn_ld (rg_A σ 7) 7 5 (fun v1 => if v1 = (-1) then (s_rX12_takes_b282 σ x1 x2 x3 x5) else (kn_i (s_rX12_does σ 5 x5 (-1)) (fun v2 σ3 => if v2 = 0 then (s_rX12_takes_b282 σ3 x1 x2 x3 x5) else (if (rg_L σ3 1) = 0 then (s_rX12_takes_b282 σ3 x1 x2 x3 x5) else (s_rX12_takes_b283 σ3 x1 x2 x3 x5 1)))))
set_option maxRecDepth 100000 in
set_option maxHeartbeats 4000000 in
theorem p_rX12_takes_b248 {p : Program} {l : Launch} {e : Env} {s : State} {m : MethodId} {args : Array Value} {below : List Frame} {meth : Method} {c : Code} {dC : Nat → ClassId} {dI : Nat → Nat → Nat} {kA : Nat → ClassId} {ad : Nat → Nat} (C : jxc cX12_takes (some .boolean) 8 RX12 p s m args meth c dC dI kA) (hap : jw_ap 32 ad) {res : Int32 × RS} : G_rX12_takes_b248 p l e s m args below meth c dC dI kA ad res (s_rX12_takes_b248) := by
  obtain ⟨hx, hb, hml, hown, hts, hr, hlocks, hK, hN⟩ := id C
  intro σ x1 x2 x3 x5 hf H locs ls hP hS hl
  unfold s_rX12_takes_b248 at hf
  refine lv_aload_n hx hb dX12_takes_248 rfl (lv_at hl 0 rfl) ?_
  refine r_gX12_acts hx hb hts hown hK hP (hts _ kw_772) dX12_takes_249 ?_
  refine lv_iconst (v := 5) hx hb dX12_takes_252 (by decide) ?_
  refine ja_ild hx hb hK hP 11 0 rfl rfl hf dX12_takes_253 (fun v1 hf => ?_)
  refine lv_iconst (v := (-1)) hx hb dX12_takes_254 (by decide) ?_
  refine jc_eq (tgt := 282) hx hb hf dX12_takes_255 (by decide) (fun hf => ?_) (fun hf => ?_)
  · exact (p_rX12_takes_b282 C hap) σ x1 x2 x3 x5 hf H locs ls hP hS (lv_sub hl [0, 1, 2, 3, 4] rfl)
  · refine lv_aload_n hx hb dX12_takes_258 rfl (lv_at hl 0 rfl) ?_
    refine lv_iconst (v := 5) hx hb dX12_takes_259 (by decide) ?_
    refine lv_iload hx hb dX12_takes_260 (lv_at hl 4 rfl) ?_
    refine lv_iconst (v := (-1)) hx hb dX12_takes_262 (by decide) ?_
    refine jk_i hf (fun res hres => jv_run hx hb hml hown hts hK hN r_hG r_hNW hl.1 (n := 3) (As := [.int 5, .int x5, .int (-1)]) (rest := []) (c_rX12_does l hap σ 5 x5 (-1) res hres) hP (ci := 12) (q0 := 0) rfl rfl rfl kw_986 kw_983 kw_985 kw_31 kw_64 ⟨rfl, rfl⟩ (by decide +kernel) rfl ⟨Nat.le_of_ble_eq_true rfl, Nat.le_of_ble_eq_true rfl⟩ rfl (Nat.le_of_ble_eq_true rfl) dX12_takes_263) hS (fun v2 σ3 H locs hP hS hf => ?_)
    refine jb_eq (tgt := 282) hx hb hf dX12_takes_266 (by decide) (fun hf => ?_) (fun hf => ?_)
    · exact (p_rX12_takes_b282 C hap) σ3 x1 x2 x3 x5 hf H locs ls hP hS (lv_sub hl [0, 1, 2, 3, 4] rfl)
    · refine lv_aload_n hx hb dX12_takes_269 rfl (lv_at hl 0 rfl) ?_
      refine r_gX12_came hx hb hts hown hK hP (hts _ kw_791) dX12_takes_270 ?_
      refine lv_lconst (v := 0) hx hb dX12_takes_273 (by decide) ?_
      refine jl_eq (tgt := 282) hx hb hf dX12_takes_274 dX12_takes_275 (by decide) (fun hf => ?_) (fun hf => ?_)
      · exact (p_rX12_takes_b282 C hap) σ3 x1 x2 x3 x5 hf H locs ls hP hS (lv_sub hl [0, 1, 2, 3, 4] rfl)
      · refine lv_iconst (v := 1) hx hb dX12_takes_278 (by decide) ?_
        refine lv_goto (tgt := 283) hx hb dX12_takes_279 (by decide) ?_
        exact (p_rX12_takes_b283 C hap) σ3 x1 x2 x3 x5 1 hf H locs ls hP hS (lv_sub hl [0, 1, 2, 3, 4] rfl)
def s_rX12_takes_b217 (k217 : RS → Int32 → Int32 → Int64 → Int32 → Int32 → Option (Int32 × RS)) (σ : RS) (x1 : Int32) (x2 : Int32) (x3 : Int64) (x5 : Int32) (x6 : Int32) : Option (Int32 × RS) := if 3 ≤ x6 then (s_rX12_takes_b248 σ x1 x2 x3 x5) else (kn_ld (rg_B σ 8) 36 x6 (fun v1 => kn_st (rs_B σ 1 (vp_updL (rg_B σ 1) ((3 * x5) + x6).toNatClampNeg v1)) 36 ((3 * x5) + x6) (fun σ2 => kn_v (x6 + 1) (fun v3 => k217 σ2 x1 x2 x3 x5 v3))))
set_option maxRecDepth 100000 in
set_option maxHeartbeats 4000000 in
theorem p_rX12_takes_b217 {p : Program} {l : Launch} {e : Env} {s : State} {m : MethodId} {args : Array Value} {below : List Frame} {meth : Method} {c : Code} {dC : Nat → ClassId} {dI : Nat → Nat → Nat} {kA : Nat → ClassId} {ad : Nat → Nat} (C : jxc cX12_takes (some .boolean) 8 RX12 p s m args meth c dC dI kA) (hap : jw_ap 32 ad) {res : Int32 × RS} {k217 : RS → Int32 → Int32 → Int64 → Int32 → Int32 → Option (Int32 × RS)} (hk217 : G_rX12_takes_b217 p l e s m args below meth c dC dI kA ad res k217) : G_rX12_takes_b217 p l e s m args below meth c dC dI kA ad res (s_rX12_takes_b217 k217) := by
  obtain ⟨hx, hb, hml, hown, hts, hr, hlocks, hK, hN⟩ := id C
  intro σ x1 x2 x3 x5 x6 hf H locs ls hP hS hl
  unfold s_rX12_takes_b217 at hf
  refine lv_iload hx hb dX12_takes_217 (lv_at hl 5 rfl) ?_
  refine lv_iconst (v := 3) hx hb dX12_takes_219 (by decide) ?_
  refine jc_ge (tgt := 248) hx hb hf dX12_takes_220 (by decide) (fun hf => ?_) (fun hf => ?_)
  · exact (p_rX12_takes_b248 C hap) σ x1 x2 x3 x5 hf H locs ls hP hS (lv_sub hl [0, 1, 2, 3, 4] rfl)
  · refine lv_aload_n hx hb dX12_takes_223 rfl (lv_at hl 0 rfl) ?_
    refine r_gX12_states hx hb hts hown hK hP (hts _ kw_766) dX12_takes_224 ?_
    refine lv_iconst (v := 3) hx hb dX12_takes_227 (by decide) ?_
    refine lv_iload hx hb dX12_takes_228 (lv_at hl 4 rfl) ?_
    refine lv_imul hx hb dX12_takes_230 ?_
    refine lv_iload hx hb dX12_takes_231 (lv_at hl 5 rfl) ?_
    refine lv_iadd hx hb dX12_takes_233 ?_
    refine lv_aload_n hx hb dX12_takes_234 rfl (lv_at hl 0 rfl) ?_
    refine r_gX12_newStates hx hb hts hown hK hP (hts _ kw_804) dX12_takes_235 ?_
    refine lv_iload hx hb dX12_takes_238 (lv_at hl 5 rfl) ?_
    refine ja_lld hx hb hK hP 25 1 rfl rfl hf dX12_takes_240 (fun v1 hf => ?_)
    refine ja_lst hx hb hK (r_D hap σ) hP hS 6 1 rfl rfl r_sB1 hf dX12_takes_241 (fun σ2 H locs hP hS hf => ?_)
    obtain ⟨v3, e_v3, hf⟩ := kn_v_e hf
    refine lv_iinc (v := v3) (lv' := [(6, .int v3), (0, .ref (ad 0)), (1, .int x1), (2, .int x2), (3, .long x3), (5, .int x5)]) hx hb dX12_takes_242 hl (k := 5) rfl e_v3 (by decide) rfl (fun ls hl => ?_)
    refine lv_goto (tgt := 217) hx hb dX12_takes_245 (by decide) ?_
    exact hk217 σ2 x1 x2 x3 x5 v3 hf H locs ls hP hS (lv_sub hl [1, 2, 3, 4, 5, 0] rfl)
def f_rX12_takes_b217 : RS → Int32 → Int32 → Int64 → Int32 → Int32 → Option (Int32 × RS) := kn_fix (fun _ _ _ _ _ _ => none) (s_rX12_takes_b217) FU
theorem q_rX12_takes_b217 {p : Program} {l : Launch} {e : Env} {s : State} {m : MethodId} {args : Array Value} {below : List Frame} {meth : Method} {c : Code} {dC : Nat → ClassId} {dI : Nat → Nat → Nat} {kA : Nat → ClassId} {ad : Nat → Nat} (C : jxc cX12_takes (some .boolean) 8 RX12 p s m args meth c dC dI kA) (hap : jw_ap 32 ad) {res : Int32 × RS} : G_rX12_takes_b217 p l e s m args below meth c dC dI kA ad res (f_rX12_takes_b217) := kn_fix_ind (G := fun F => G_rX12_takes_b217 p l e s m args below meth c dC dI kA ad res F) (fun _ _ _ _ _ _ hf => by cases hf) (fun k217 hk217 => p_rX12_takes_b217 C hap hk217) FU
def s_rX12_takes_b205 (σ : RS) (x1 : Int32) (x2 : Int32) (x3 : Int64) (x5 : Int32) : Option (Int32 × RS) := kn_i (s_rX12_isFailed σ) (fun v1 σ2 => if v1 = 0 then (f_rX12_takes_b217 σ2 x1 x2 x3 x5 0) else (some (0, σ2)))
set_option maxRecDepth 100000 in
set_option maxHeartbeats 4000000 in
theorem p_rX12_takes_b205 {p : Program} {l : Launch} {e : Env} {s : State} {m : MethodId} {args : Array Value} {below : List Frame} {meth : Method} {c : Code} {dC : Nat → ClassId} {dI : Nat → Nat → Nat} {kA : Nat → ClassId} {ad : Nat → Nat} (C : jxc cX12_takes (some .boolean) 8 RX12 p s m args meth c dC dI kA) (hap : jw_ap 32 ad) {res : Int32 × RS} : G_rX12_takes_b205 p l e s m args below meth c dC dI kA ad res (s_rX12_takes_b205) := by
  obtain ⟨hx, hb, hml, hown, hts, hr, hlocks, hK, hN⟩ := id C
  intro σ x1 x2 x3 x5 hf H locs ls hP hS hl
  unfold s_rX12_takes_b205 at hf
  refine lv_aload_n hx hb dX12_takes_205 rfl (lv_at hl 0 rfl) ?_
  refine jk_i hf (fun res hres => jv_run hx hb hml hown hts hK hN r_hG r_hNW hl.1 (n := 0) (As := []) (rest := []) (c_rX12_isFailed l hap σ res hres) hP (ci := 12) (q0 := 0) rfl rfl rfl kw_974 kw_971 kw_973 kw_28 kw_64 ⟨rfl, rfl⟩ (by decide +kernel) rfl ⟨Nat.le_of_ble_eq_true rfl, Nat.le_of_ble_eq_true rfl⟩ rfl (Nat.le_of_ble_eq_true rfl) dX12_takes_206) hS (fun v1 σ2 H locs hP hS hf => ?_)
  refine jb_eq (tgt := 214) hx hb hf dX12_takes_209 (by decide) (fun hf => ?_) (fun hf => ?_)
  · refine lv_iconst (v := 0) hx hb dX12_takes_214 (by decide) ?_
    refine lv_istore (lv' := [(6, .int 0), (0, .ref (ad 0)), (1, .int x1), (2, .int x2), (3, .long x3), (5, .int x5)]) hx hb dX12_takes_215 hl (by decide) rfl (fun ls hl => ?_)
    exact (q_rX12_takes_b217 C hap) σ2 x1 x2 x3 x5 0 hf H locs ls hP hS (lv_sub hl [1, 2, 3, 4, 5, 0] rfl)
  · refine lv_iconst (v := 0) hx hb dX12_takes_212 (by decide) ?_
    exact jr_i hx hb hr hlocks hf (by decide) hP hS dX12_takes_213
def s_rX12_takes_b199 (k148 : RS → Int32 → Int32 → Int64 → Int32 → Int32 → Option (Int32 × RS)) (σ : RS) (x1 : Int32) (x2 : Int32) (x3 : Int64) (x5 : Int32) (x6 : Int32) : Option (Int32 × RS) := kn_v (x6 + 1) (fun v1 => k148 σ x1 x2 x3 x5 v1)
set_option maxRecDepth 100000 in
set_option maxHeartbeats 4000000 in
theorem p_rX12_takes_b199 {p : Program} {l : Launch} {e : Env} {s : State} {m : MethodId} {args : Array Value} {below : List Frame} {meth : Method} {c : Code} {dC : Nat → ClassId} {dI : Nat → Nat → Nat} {kA : Nat → ClassId} {ad : Nat → Nat} (C : jxc cX12_takes (some .boolean) 8 RX12 p s m args meth c dC dI kA) (hap : jw_ap 32 ad) {res : Int32 × RS} {k148 : RS → Int32 → Int32 → Int64 → Int32 → Int32 → Option (Int32 × RS)} (hk148 : G_rX12_takes_b148 p l e s m args below meth c dC dI kA ad res k148) : G_rX12_takes_b199 p l e s m args below meth c dC dI kA ad res (s_rX12_takes_b199 k148) := by
  obtain ⟨hx, hb, hml, hown, hts, hr, hlocks, hK, hN⟩ := id C
  intro σ x1 x2 x3 x5 x6 hf H locs ls hP hS hl
  unfold s_rX12_takes_b199 at hf
  obtain ⟨v1, e_v1, hf⟩ := kn_v_e hf
  refine lv_iinc (v := v1) (lv' := [(6, .int v1), (0, .ref (ad 0)), (1, .int x1), (2, .int x2), (3, .long x3), (5, .int x5)]) hx hb dX12_takes_199 hl (k := 5) rfl e_v1 (by decide) rfl (fun ls hl => ?_)
  refine lv_goto (tgt := 148) hx hb dX12_takes_202 (by decide) ?_
  exact hk148 σ x1 x2 x3 x5 v1 hf H locs ls hP hS (lv_sub hl [1, 2, 3, 4, 5, 0] rfl)
def s_rX12_takes_b148 (k148 : RS → Int32 → Int32 → Int64 → Int32 → Int32 → Option (Int32 × RS)) (σ : RS) (x1 : Int32) (x2 : Int32) (x3 : Int64) (x5 : Int32) (x6 : Int32) : Option (Int32 × RS) := if 3 ≤ x6 then (s_rX12_takes_b205 σ x1 x2 x3 x5) else (kn_i (s_rX12_isFailed σ) (fun v1 σ2 => if v1 = 0 then (kn_ld (rg_A σ2 7) 7 (2 + x6) (fun v3 => if v3 = (-1) then (s_rX12_takes_b199 k148 σ2 x1 x2 x3 x5 x6) else (kn_i (s_rX12_does σ2 (2 + x6) x5 (-1)) (fun v4 σ5 => if v4 = 0 then (s_rX12_takes_b199 k148 σ5 x1 x2 x3 x5 x6) else (kn_st (rs_B σ5 8 (vp_updL (rg_B σ5 8) x6.toNatClampNeg (rg_L σ5 1))) 36 x6 (fun σ6 => s_rX12_takes_b199 k148 σ6 x1 x2 x3 x5 x6)))))) else (s_rX12_takes_b205 σ2 x1 x2 x3 x5)))
set_option maxRecDepth 100000 in
set_option maxHeartbeats 4000000 in
theorem p_rX12_takes_b148 {p : Program} {l : Launch} {e : Env} {s : State} {m : MethodId} {args : Array Value} {below : List Frame} {meth : Method} {c : Code} {dC : Nat → ClassId} {dI : Nat → Nat → Nat} {kA : Nat → ClassId} {ad : Nat → Nat} (C : jxc cX12_takes (some .boolean) 8 RX12 p s m args meth c dC dI kA) (hap : jw_ap 32 ad) {res : Int32 × RS} {k148 : RS → Int32 → Int32 → Int64 → Int32 → Int32 → Option (Int32 × RS)} (hk148 : G_rX12_takes_b148 p l e s m args below meth c dC dI kA ad res k148) : G_rX12_takes_b148 p l e s m args below meth c dC dI kA ad res (s_rX12_takes_b148 k148) := by
  obtain ⟨hx, hb, hml, hown, hts, hr, hlocks, hK, hN⟩ := id C
  intro σ x1 x2 x3 x5 x6 hf H locs ls hP hS hl
  unfold s_rX12_takes_b148 at hf
  refine lv_iload hx hb dX12_takes_148 (lv_at hl 5 rfl) ?_
  refine lv_iconst (v := 3) hx hb dX12_takes_150 (by decide) ?_
  refine jc_ge (tgt := 205) hx hb hf dX12_takes_151 (by decide) (fun hf => ?_) (fun hf => ?_)
  · exact (p_rX12_takes_b205 C hap) σ x1 x2 x3 x5 hf H locs ls hP hS (lv_sub hl [0, 1, 2, 3, 4] rfl)
  · refine lv_aload_n hx hb dX12_takes_154 rfl (lv_at hl 0 rfl) ?_
    refine jk_i hf (fun res hres => jv_run hx hb hml hown hts hK hN r_hG r_hNW hl.1 (n := 0) (As := []) (rest := []) (c_rX12_isFailed l hap σ res hres) hP (ci := 12) (q0 := 0) rfl rfl rfl kw_974 kw_971 kw_973 kw_28 kw_64 ⟨rfl, rfl⟩ (by decide +kernel) rfl ⟨Nat.le_of_ble_eq_true rfl, Nat.le_of_ble_eq_true rfl⟩ rfl (Nat.le_of_ble_eq_true rfl) dX12_takes_155) hS (fun v1 σ2 H locs hP hS hf => ?_)
    refine jb_ne (tgt := 205) hx hb hf dX12_takes_158 (by decide) (fun hf => ?_) (fun hf => ?_)
    · exact (p_rX12_takes_b205 C hap) σ2 x1 x2 x3 x5 hf H locs ls hP hS (lv_sub hl [0, 1, 2, 3, 4] rfl)
    · refine lv_aload_n hx hb dX12_takes_161 rfl (lv_at hl 0 rfl) ?_
      refine r_gX12_acts hx hb hts hown hK hP (hts _ kw_772) dX12_takes_162 ?_
      refine lv_iconst (v := 2) hx hb dX12_takes_165 (by decide) ?_
      refine lv_iload hx hb dX12_takes_166 (lv_at hl 5 rfl) ?_
      refine lv_iadd hx hb dX12_takes_168 ?_
      refine ja_ild hx hb hK hP 11 0 rfl rfl hf dX12_takes_169 (fun v3 hf => ?_)
      refine lv_iconst (v := (-1)) hx hb dX12_takes_170 (by decide) ?_
      refine jc_eq (tgt := 199) hx hb hf dX12_takes_171 (by decide) (fun hf => ?_) (fun hf => ?_)
      · exact (p_rX12_takes_b199 C hap hk148) σ2 x1 x2 x3 x5 x6 hf H locs ls hP hS (lv_sub hl [0, 1, 2, 3, 4, 5] rfl)
      · refine lv_aload_n hx hb dX12_takes_174 rfl (lv_at hl 0 rfl) ?_
        refine lv_iconst (v := 2) hx hb dX12_takes_175 (by decide) ?_
        refine lv_iload hx hb dX12_takes_176 (lv_at hl 5 rfl) ?_
        refine lv_iadd hx hb dX12_takes_178 ?_
        refine lv_iload hx hb dX12_takes_179 (lv_at hl 4 rfl) ?_
        refine lv_iconst (v := (-1)) hx hb dX12_takes_181 (by decide) ?_
        refine jk_i hf (fun res hres => jv_run hx hb hml hown hts hK hN r_hG r_hNW hl.1 (n := 3) (As := [.int (2 + x6), .int x5, .int (-1)]) (rest := []) (c_rX12_does l hap σ2 (2 + x6) x5 (-1) res hres) hP (ci := 12) (q0 := 0) rfl rfl rfl kw_986 kw_983 kw_985 kw_31 kw_64 ⟨rfl, rfl⟩ (by decide +kernel) rfl ⟨Nat.le_of_ble_eq_true rfl, Nat.le_of_ble_eq_true rfl⟩ rfl (Nat.le_of_ble_eq_true rfl) dX12_takes_182) hS (fun v4 σ5 H locs hP hS hf => ?_)
        refine jb_eq (tgt := 199) hx hb hf dX12_takes_185 (by decide) (fun hf => ?_) (fun hf => ?_)
        · exact (p_rX12_takes_b199 C hap hk148) σ5 x1 x2 x3 x5 x6 hf H locs ls hP hS (lv_sub hl [0, 1, 2, 3, 4, 5] rfl)
        · refine lv_aload_n hx hb dX12_takes_188 rfl (lv_at hl 0 rfl) ?_
          refine r_gX12_newStates hx hb hts hown hK hP (hts _ kw_804) dX12_takes_189 ?_
          refine lv_iload hx hb dX12_takes_192 (lv_at hl 5 rfl) ?_
          refine lv_aload_n hx hb dX12_takes_194 rfl (lv_at hl 0 rfl) ?_
          refine r_gX12_came hx hb hts hown hK hP (hts _ kw_791) dX12_takes_195 ?_
          refine ja_lst hx hb hK (r_D hap σ5) hP hS 25 1 rfl rfl r_sB8 hf dX12_takes_198 (fun σ6 H locs hP hS hf => ?_)
          exact (p_rX12_takes_b199 C hap hk148) σ6 x1 x2 x3 x5 x6 hf H locs ls hP hS (lv_sub hl [0, 1, 2, 3, 4, 5] rfl)
def f_rX12_takes_b148 : RS → Int32 → Int32 → Int64 → Int32 → Int32 → Option (Int32 × RS) := kn_fix (fun _ _ _ _ _ _ => none) (s_rX12_takes_b148) FU
theorem q_rX12_takes_b148 {p : Program} {l : Launch} {e : Env} {s : State} {m : MethodId} {args : Array Value} {below : List Frame} {meth : Method} {c : Code} {dC : Nat → ClassId} {dI : Nat → Nat → Nat} {kA : Nat → ClassId} {ad : Nat → Nat} (C : jxc cX12_takes (some .boolean) 8 RX12 p s m args meth c dC dI kA) (hap : jw_ap 32 ad) {res : Int32 × RS} : G_rX12_takes_b148 p l e s m args below meth c dC dI kA ad res (f_rX12_takes_b148) := kn_fix_ind (G := fun F => G_rX12_takes_b148 p l e s m args below meth c dC dI kA ad res F) (fun _ _ _ _ _ _ hf => by cases hf) (fun k148 hk148 => p_rX12_takes_b148 C hap hk148) FU
def s_rX12_takes_b145 (σ : RS) (x1 : Int32) (x2 : Int32) (x3 : Int64) (x5 : Int32) : Option (Int32 × RS) := f_rX12_takes_b148 σ x1 x2 x3 x5 0
set_option maxRecDepth 100000 in
set_option maxHeartbeats 4000000 in
theorem p_rX12_takes_b145 {p : Program} {l : Launch} {e : Env} {s : State} {m : MethodId} {args : Array Value} {below : List Frame} {meth : Method} {c : Code} {dC : Nat → ClassId} {dI : Nat → Nat → Nat} {kA : Nat → ClassId} {ad : Nat → Nat} (C : jxc cX12_takes (some .boolean) 8 RX12 p s m args meth c dC dI kA) (hap : jw_ap 32 ad) {res : Int32 × RS} : G_rX12_takes_b145 p l e s m args below meth c dC dI kA ad res (s_rX12_takes_b145) := by
  obtain ⟨hx, hb, hml, hown, hts, hr, hlocks, hK, hN⟩ := id C
  intro σ x1 x2 x3 x5 hf H locs ls hP hS hl
  unfold s_rX12_takes_b145 at hf
  refine lv_iconst (v := 0) hx hb dX12_takes_145 (by decide) ?_
  refine lv_istore (lv' := [(6, .int 0), (0, .ref (ad 0)), (1, .int x1), (2, .int x2), (3, .long x3), (5, .int x5)]) hx hb dX12_takes_146 hl (by decide) rfl (fun ls hl => ?_)
  exact (q_rX12_takes_b148 C hap) σ x1 x2 x3 x5 0 hf H locs ls hP hS (lv_sub hl [1, 2, 3, 4, 5, 0] rfl)
def s_rX12_takes_b95 (k95 : RS → Int32 → Int32 → Int64 → Int32 → Int32 → Option (Int32 × RS)) (σ : RS) (x1 : Int32) (x2 : Int32) (x3 : Int64) (x5 : Int32) (x6 : Int32) : Option (Int32 × RS) := if 3 ≤ x6 then (s_rX12_takes_b145 σ x1 x2 x3 x5) else (kn_ld (rg_B σ 1) 36 ((3 * x5) + x6) (fun v1 => kn_st (rs_B σ 11 (vp_updL (rg_B σ 11) x6.toNatClampNeg v1)) 3 x6 (fun σ2 => kn_ld (rg_B σ2 1) 36 ((3 * x5) + x6) (fun v3 => kn_st (rs_B σ2 8 (vp_updL (rg_B σ2 8) x6.toNatClampNeg v3)) 36 x6 (fun σ4 => kn_v (x6 + 1) (fun v5 => k95 σ4 x1 x2 x3 x5 v5))))))
set_option maxRecDepth 100000 in
set_option maxHeartbeats 4000000 in
theorem p_rX12_takes_b95 {p : Program} {l : Launch} {e : Env} {s : State} {m : MethodId} {args : Array Value} {below : List Frame} {meth : Method} {c : Code} {dC : Nat → ClassId} {dI : Nat → Nat → Nat} {kA : Nat → ClassId} {ad : Nat → Nat} (C : jxc cX12_takes (some .boolean) 8 RX12 p s m args meth c dC dI kA) (hap : jw_ap 32 ad) {res : Int32 × RS} {k95 : RS → Int32 → Int32 → Int64 → Int32 → Int32 → Option (Int32 × RS)} (hk95 : G_rX12_takes_b95 p l e s m args below meth c dC dI kA ad res k95) : G_rX12_takes_b95 p l e s m args below meth c dC dI kA ad res (s_rX12_takes_b95 k95) := by
  obtain ⟨hx, hb, hml, hown, hts, hr, hlocks, hK, hN⟩ := id C
  intro σ x1 x2 x3 x5 x6 hf H locs ls hP hS hl
  unfold s_rX12_takes_b95 at hf
  refine lv_iload hx hb dX12_takes_95 (lv_at hl 5 rfl) ?_
  refine lv_iconst (v := 3) hx hb dX12_takes_97 (by decide) ?_
  refine jc_ge (tgt := 145) hx hb hf dX12_takes_98 (by decide) (fun hf => ?_) (fun hf => ?_)
  · exact (p_rX12_takes_b145 C hap) σ x1 x2 x3 x5 hf H locs ls hP hS (lv_sub hl [0, 1, 2, 3, 4] rfl)
  · refine lv_aload_n hx hb dX12_takes_101 rfl (lv_at hl 0 rfl) ?_
    refine r_gX12_takenStates hx hb hts hown hK hP (hts _ kw_811) dX12_takes_102 ?_
    refine lv_iload hx hb dX12_takes_105 (lv_at hl 5 rfl) ?_
    refine lv_aload_n hx hb dX12_takes_107 rfl (lv_at hl 0 rfl) ?_
    refine r_gX12_states hx hb hts hown hK hP (hts _ kw_766) dX12_takes_108 ?_
    refine lv_iconst (v := 3) hx hb dX12_takes_111 (by decide) ?_
    refine lv_iload hx hb dX12_takes_112 (lv_at hl 4 rfl) ?_
    refine lv_imul hx hb dX12_takes_114 ?_
    refine lv_iload hx hb dX12_takes_115 (lv_at hl 5 rfl) ?_
    refine lv_iadd hx hb dX12_takes_117 ?_
    refine ja_lld hx hb hK hP 6 1 rfl rfl hf dX12_takes_118 (fun v1 hf => ?_)
    refine ja_lst hx hb hK (r_D hap σ) hP hS 31 1 rfl rfl r_sB11 hf dX12_takes_119 (fun σ2 H locs hP hS hf => ?_)
    refine lv_aload_n hx hb dX12_takes_120 rfl (lv_at hl 0 rfl) ?_
    refine r_gX12_newStates hx hb hts hown hK hP (hts _ kw_804) dX12_takes_121 ?_
    refine lv_iload hx hb dX12_takes_124 (lv_at hl 5 rfl) ?_
    refine lv_aload_n hx hb dX12_takes_126 rfl (lv_at hl 0 rfl) ?_
    refine r_gX12_states hx hb hts hown hK hP (hts _ kw_766) dX12_takes_127 ?_
    refine lv_iconst (v := 3) hx hb dX12_takes_130 (by decide) ?_
    refine lv_iload hx hb dX12_takes_131 (lv_at hl 4 rfl) ?_
    refine lv_imul hx hb dX12_takes_133 ?_
    refine lv_iload hx hb dX12_takes_134 (lv_at hl 5 rfl) ?_
    refine lv_iadd hx hb dX12_takes_136 ?_
    refine ja_lld hx hb hK hP 6 1 rfl rfl hf dX12_takes_137 (fun v3 hf => ?_)
    refine ja_lst hx hb hK (r_D hap σ2) hP hS 25 1 rfl rfl r_sB8 hf dX12_takes_138 (fun σ4 H locs hP hS hf => ?_)
    obtain ⟨v5, e_v5, hf⟩ := kn_v_e hf
    refine lv_iinc (v := v5) (lv' := [(6, .int v5), (0, .ref (ad 0)), (1, .int x1), (2, .int x2), (3, .long x3), (5, .int x5)]) hx hb dX12_takes_139 hl (k := 5) rfl e_v5 (by decide) rfl (fun ls hl => ?_)
    refine lv_goto (tgt := 95) hx hb dX12_takes_142 (by decide) ?_
    exact hk95 σ4 x1 x2 x3 x5 v5 hf H locs ls hP hS (lv_sub hl [1, 2, 3, 4, 5, 0] rfl)
def f_rX12_takes_b95 : RS → Int32 → Int32 → Int64 → Int32 → Int32 → Option (Int32 × RS) := kn_fix (fun _ _ _ _ _ _ => none) (s_rX12_takes_b95) FU
theorem q_rX12_takes_b95 {p : Program} {l : Launch} {e : Env} {s : State} {m : MethodId} {args : Array Value} {below : List Frame} {meth : Method} {c : Code} {dC : Nat → ClassId} {dI : Nat → Nat → Nat} {kA : Nat → ClassId} {ad : Nat → Nat} (C : jxc cX12_takes (some .boolean) 8 RX12 p s m args meth c dC dI kA) (hap : jw_ap 32 ad) {res : Int32 × RS} : G_rX12_takes_b95 p l e s m args below meth c dC dI kA ad res (f_rX12_takes_b95) := kn_fix_ind (G := fun F => G_rX12_takes_b95 p l e s m args below meth c dC dI kA ad res F) (fun _ _ _ _ _ _ hf => by cases hf) (fun k95 hk95 => p_rX12_takes_b95 C hap hk95) FU
def s_rX12_takes_b74 (σ : RS) (x1 : Int32) (x2 : Int32) (x3 : Int64) : Option (Int32 × RS) := kn_ld (rg_A σ 6) 40 x2 (fun v1 => kn_v (rs_L σ 2 x3) (fun σ2 => kn_v (rs_I σ2 14 1) (fun σ3 => f_rX12_takes_b95 σ3 x1 x2 x3 v1 0)))
set_option maxRecDepth 100000 in
set_option maxHeartbeats 4000000 in
theorem p_rX12_takes_b74 {p : Program} {l : Launch} {e : Env} {s : State} {m : MethodId} {args : Array Value} {below : List Frame} {meth : Method} {c : Code} {dC : Nat → ClassId} {dI : Nat → Nat → Nat} {kA : Nat → ClassId} {ad : Nat → Nat} (C : jxc cX12_takes (some .boolean) 8 RX12 p s m args meth c dC dI kA) (hap : jw_ap 32 ad) {res : Int32 × RS} : G_rX12_takes_b74 p l e s m args below meth c dC dI kA ad res (s_rX12_takes_b74) := by
  obtain ⟨hx, hb, hml, hown, hts, hr, hlocks, hK, hN⟩ := id C
  intro σ x1 x2 x3 hf H locs ls hP hS hl
  unfold s_rX12_takes_b74 at hf
  refine lv_aload_n hx hb dX12_takes_74 rfl (lv_at hl 0 rfl) ?_
  refine r_gX12_to hx hb hts hown hK hP (hts _ kw_770) dX12_takes_75 ?_
  refine lv_iload_n hx hb dX12_takes_78 rfl (lv_at hl 2 rfl) ?_
  refine ja_ild hx hb hK hP 9 0 rfl rfl hf dX12_takes_79 (fun v1 hf => ?_)
  refine lv_istore (lv' := [(5, .int v1), (0, .ref (ad 0)), (1, .int x1), (2, .int x2), (3, .long x3)]) hx hb dX12_takes_80 hl (by decide) rfl (fun ls hl => ?_)
  refine lv_aload_n hx hb dX12_takes_82 rfl (lv_at hl 1 rfl) ?_
  refine lv_lload_n hx hb dX12_takes_83 rfl (lv_at hl 4 rfl) ?_
  refine r_pX12_folded hx hb hts hown hK hap hP hS hf (hts _ kw_796) dX12_takes_84 (fun σ2 H locs hP hS hf => ?_)
  refine lv_aload_n hx hb dX12_takes_87 rfl (lv_at hl 1 rfl) ?_
  refine lv_iconst (v := 1) hx hb dX12_takes_88 (by decide) ?_
  refine r_pX12_many hx hb hts hown hK hap hP hS hf (hts _ kw_797) dX12_takes_89 (fun σ3 H locs hP hS hf => ?_)
  refine lv_iconst (v := 0) hx hb dX12_takes_92 (by decide) ?_
  refine lv_istore (lv' := [(6, .int 0), (5, .int v1), (0, .ref (ad 0)), (1, .int x1), (2, .int x2), (3, .long x3)]) hx hb dX12_takes_93 hl (by decide) rfl (fun ls hl => ?_)
  exact (q_rX12_takes_b95 C hap) σ3 x1 x2 x3 v1 0 hf H locs ls hP hS (lv_sub hl [2, 3, 4, 5, 1, 0] rfl)
def s_rX12_takes_b27 (k27 : RS → Int32 → Int32 → Int64 → Int32 → Option (Int32 × RS)) (σ : RS) (x1 : Int32) (x2 : Int32) (x3 : Int64) (x5 : Int32) : Option (Int32 × RS) := if (rg_I σ 17) ≤ x5 then (s_rX12_takes_b74 σ x1 x2 x3) else (kn_ld (rg_A σ 18) 64 (x5 + 1) (fun v1 => kn_st (rs_A σ 18 (upd (rg_A σ 18) x5.toNatClampNeg v1)) 64 x5 (fun σ2 => kn_ld (rg_B σ2 10) 64 (x5 + 1) (fun v3 => kn_st (rs_B σ2 10 (vp_updL (rg_B σ2 10) x5.toNatClampNeg v3)) 64 x5 (fun σ4 => kn_v (x5 + 1) (fun v5 => k27 σ4 x1 x2 x3 v5))))))
set_option maxRecDepth 100000 in
set_option maxHeartbeats 4000000 in
theorem p_rX12_takes_b27 {p : Program} {l : Launch} {e : Env} {s : State} {m : MethodId} {args : Array Value} {below : List Frame} {meth : Method} {c : Code} {dC : Nat → ClassId} {dI : Nat → Nat → Nat} {kA : Nat → ClassId} {ad : Nat → Nat} (C : jxc cX12_takes (some .boolean) 8 RX12 p s m args meth c dC dI kA) (hap : jw_ap 32 ad) {res : Int32 × RS} {k27 : RS → Int32 → Int32 → Int64 → Int32 → Option (Int32 × RS)} (hk27 : G_rX12_takes_b27 p l e s m args below meth c dC dI kA ad res k27) : G_rX12_takes_b27 p l e s m args below meth c dC dI kA ad res (s_rX12_takes_b27 k27) := by
  obtain ⟨hx, hb, hml, hown, hts, hr, hlocks, hK, hN⟩ := id C
  intro σ x1 x2 x3 x5 hf H locs ls hP hS hl
  unfold s_rX12_takes_b27 at hf
  refine lv_iload hx hb dX12_takes_27 (lv_at hl 4 rfl) ?_
  refine lv_aload_n hx hb dX12_takes_29 rfl (lv_at hl 0 rfl) ?_
  refine r_gX12_waiting hx hb hts hown hK hP (hts _ kw_808) dX12_takes_30 ?_
  refine jc_ge (tgt := 74) hx hb hf dX12_takes_33 (by decide) (fun hf => ?_) (fun hf => ?_)
  · exact (p_rX12_takes_b74 C hap) σ x1 x2 x3 hf H locs ls hP hS (lv_sub hl [0, 1, 2, 3] rfl)
  · refine lv_aload_n hx hb dX12_takes_36 rfl (lv_at hl 0 rfl) ?_
    refine r_gX12_lineArcs hx hb hts hown hK hP (hts _ kw_809) dX12_takes_37 ?_
    refine lv_iload hx hb dX12_takes_40 (lv_at hl 4 rfl) ?_
    refine lv_aload_n hx hb dX12_takes_42 rfl (lv_at hl 0 rfl) ?_
    refine r_gX12_lineArcs hx hb hts hown hK hP (hts _ kw_809) dX12_takes_43 ?_
    refine lv_iload hx hb dX12_takes_46 (lv_at hl 4 rfl) ?_
    refine lv_iconst (v := 1) hx hb dX12_takes_48 (by decide) ?_
    refine lv_iadd hx hb dX12_takes_49 ?_
    refine ja_ild hx hb hK hP 29 0 rfl rfl hf dX12_takes_50 (fun v1 hf => ?_)
    refine ja_ist hx hb hK (r_D hap σ) hP hS 29 0 rfl rfl r_sA18 hf dX12_takes_51 (fun σ2 H locs hP hS hf => ?_)
    refine lv_aload_n hx hb dX12_takes_52 rfl (lv_at hl 0 rfl) ?_
    refine r_gX12_line hx hb hts hown hK hP (hts _ kw_810) dX12_takes_53 ?_
    refine lv_iload hx hb dX12_takes_56 (lv_at hl 4 rfl) ?_
    refine lv_aload_n hx hb dX12_takes_58 rfl (lv_at hl 0 rfl) ?_
    refine r_gX12_line hx hb hts hown hK hP (hts _ kw_810) dX12_takes_59 ?_
    refine lv_iload hx hb dX12_takes_62 (lv_at hl 4 rfl) ?_
    refine lv_iconst (v := 1) hx hb dX12_takes_64 (by decide) ?_
    refine lv_iadd hx hb dX12_takes_65 ?_
    refine ja_lld hx hb hK hP 30 1 rfl rfl hf dX12_takes_66 (fun v3 hf => ?_)
    refine ja_lst hx hb hK (r_D hap σ2) hP hS 30 1 rfl rfl r_sB10 hf dX12_takes_67 (fun σ4 H locs hP hS hf => ?_)
    obtain ⟨v5, e_v5, hf⟩ := kn_v_e hf
    refine lv_iinc (v := v5) (lv' := [(5, .int v5), (0, .ref (ad 0)), (1, .int x1), (2, .int x2), (3, .long x3)]) hx hb dX12_takes_68 hl (k := 4) rfl e_v5 (by decide) rfl (fun ls hl => ?_)
    refine lv_goto (tgt := 27) hx hb dX12_takes_71 (by decide) ?_
    exact hk27 σ4 x1 x2 x3 v5 hf H locs ls hP hS (lv_sub hl [1, 2, 3, 4, 0] rfl)
def f_rX12_takes_b27 : RS → Int32 → Int32 → Int64 → Int32 → Option (Int32 × RS) := kn_fix (fun _ _ _ _ _ => none) (s_rX12_takes_b27) FU
theorem q_rX12_takes_b27 {p : Program} {l : Launch} {e : Env} {s : State} {m : MethodId} {args : Array Value} {below : List Frame} {meth : Method} {c : Code} {dC : Nat → ClassId} {dI : Nat → Nat → Nat} {kA : Nat → ClassId} {ad : Nat → Nat} (C : jxc cX12_takes (some .boolean) 8 RX12 p s m args meth c dC dI kA) (hap : jw_ap 32 ad) {res : Int32 × RS} : G_rX12_takes_b27 p l e s m args below meth c dC dI kA ad res (f_rX12_takes_b27) := kn_fix_ind (G := fun F => G_rX12_takes_b27 p l e s m args below meth c dC dI kA ad res F) (fun _ _ _ _ _ hf => by cases hf) (fun k27 hk27 => p_rX12_takes_b27 C hap hk27) FU
def s_rX12_takes (σ : RS) (x1 : Int32) : Option (Int32 × RS) := kn_ld (rg_A σ 18) 64 0 (fun v1 => kn_ld (rg_B σ 10) 64 0 (fun v2 => kn_v (rs_I σ 17 ((rg_I σ 17) - 1)) (fun σ3 => f_rX12_takes_b27 σ3 x1 v1 v2 0)))
set_option maxRecDepth 100000 in
set_option maxHeartbeats 4000000 in
theorem p_rX12_takes {p : Program} {l : Launch} {e : Env} {s : State} {m : MethodId} {args : Array Value} {below : List Frame} {meth : Method} {c : Code} {dC : Nat → ClassId} {dI : Nat → Nat → Nat} {kA : Nat → ClassId} {ad : Nat → Nat} (C : jxc cX12_takes (some .boolean) 8 RX12 p s m args meth c dC dI kA) (hap : jw_ap 32 ad) {res : Int32 × RS} : G_rX12_takes p l e s m args below meth c dC dI kA ad res (s_rX12_takes) := by
  obtain ⟨hx, hb, hml, hown, hts, hr, hlocks, hK, hN⟩ := id C
  intro σ x1 hf H locs ls hP hS hl
  unfold s_rX12_takes at hf
  refine lv_aload_n hx hb dX12_takes_0 rfl (lv_at hl 0 rfl) ?_
  refine r_gX12_lineArcs hx hb hts hown hK hP (hts _ kw_809) dX12_takes_1 ?_
  refine lv_iconst (v := 0) hx hb dX12_takes_4 (by decide) ?_
  refine ja_ild hx hb hK hP 29 0 rfl rfl hf dX12_takes_5 (fun v1 hf => ?_)
  refine lv_istore_n (lv' := [(2, .int v1), (0, .ref (ad 0)), (1, .int x1)]) hx hb dX12_takes_6 rfl hl (by decide) rfl (fun ls hl => ?_)
  refine lv_aload_n hx hb dX12_takes_7 rfl (lv_at hl 1 rfl) ?_
  refine r_gX12_line hx hb hts hown hK hP (hts _ kw_810) dX12_takes_8 ?_
  refine lv_iconst (v := 0) hx hb dX12_takes_11 (by decide) ?_
  refine ja_lld hx hb hK hP 30 1 rfl rfl hf dX12_takes_12 (fun v2 hf => ?_)
  refine lv_lstore_n (lv' := [(3, .long v2), (2, .int v1), (0, .ref (ad 0)), (1, .int x1)]) hx hb dX12_takes_13 rfl hl (by decide) rfl (fun ls hl => ?_)
  refine lv_aload_n hx hb dX12_takes_14 rfl (lv_at hl 2 rfl) ?_
  refine lv_dup hx hb dX12_takes_15 rfl ?_
  refine r_gX12_waiting hx hb hts hown hK hP (hts _ kw_808) dX12_takes_16 ?_
  refine lv_iconst (v := 1) hx hb dX12_takes_19 (by decide) ?_
  refine lv_isub hx hb dX12_takes_20 ?_
  refine r_pX12_waiting hx hb hts hown hK hap hP hS hf (hts _ kw_808) dX12_takes_21 (fun σ3 H locs hP hS hf => ?_)
  refine lv_iconst (v := 0) hx hb dX12_takes_24 (by decide) ?_
  refine lv_istore (lv' := [(5, .int 0), (3, .long v2), (2, .int v1), (0, .ref (ad 0)), (1, .int x1)]) hx hb dX12_takes_25 hl (by decide) rfl (fun ls hl => ?_)
  exact (q_rX12_takes_b27 C hap) σ3 x1 v1 v2 0 hf H locs ls hP hS (lv_sub hl [3, 4, 2, 1, 0] rfl)
theorem c_rX12_takes (l : Launch) {dC : Nat → ClassId} {dI : Nat → Nat → Nat} {kA : Nat → ClassId} {ad : Nat → Nat} (hap : jw_ap 32 ad) (σ : RS) (x1 : Int32) (res : Int32 × RS) (hf : s_rX12_takes σ x1 = some res) : jm_i l KW NW (dC, dI) vwCl (jtys kA) (jw_A 32 ad) (r_w kA ad) yX12_takes cX12_takes 8 .boolean (rm_rX12_takes) [.ref (ad 0), .int x1] σ res := jm_i_of (by decide) (Nat.le_of_ble_eq_true rfl) (fun p e s m below meth c C hP hS ls hl => p_rX12_takes C hap σ x1 hf s.heap [] ls hP hS hl)
