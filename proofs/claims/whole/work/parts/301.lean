theorem dX12_push_0 : decode cX12_push 0 = .ok (.aload_n 0, 1) := by decide +kernel
theorem dX12_push_1 : decode cX12_push 1 = .ok (.getfield 66, 3) := by decide +kernel
theorem dX12_push_4 : decode cX12_push 4 = .ok (.aload_n 0, 1) := by decide +kernel
theorem dX12_push_5 : decode cX12_push 5 = .ok (.getfield 137, 3) := by decide +kernel
theorem dX12_push_8 : decode cX12_push 8 = .ok (.iload_n 1, 1) := by decide +kernel
theorem dX12_push_9 : decode cX12_push 9 = .ok (.iastore, 1) := by decide +kernel
theorem dX12_push_10 : decode cX12_push 10 = .ok (.aload_n 0, 1) := by decide +kernel
theorem dX12_push_11 : decode cX12_push 11 = .ok (.getfield 69, 3) := by decide +kernel
theorem dX12_push_14 : decode cX12_push 14 = .ok (.aload_n 0, 1) := by decide +kernel
theorem dX12_push_15 : decode cX12_push 15 = .ok (.getfield 137, 3) := by decide +kernel
theorem dX12_push_18 : decode cX12_push 18 = .ok (.iconst 0, 1) := by decide +kernel
theorem dX12_push_19 : decode cX12_push 19 = .ok (.iastore, 1) := by decide +kernel
theorem dX12_push_20 : decode cX12_push 20 = .ok (.aload_n 0, 1) := by decide +kernel
theorem dX12_push_21 : decode cX12_push 21 = .ok (.dup, 1) := by decide +kernel
theorem dX12_push_22 : decode cX12_push 22 = .ok (.getfield 137, 3) := by decide +kernel
theorem dX12_push_25 : decode cX12_push 25 = .ok (.iconst 1, 1) := by decide +kernel
theorem dX12_push_26 : decode cX12_push 26 = .ok (.iadd, 1) := by decide +kernel
theorem dX12_push_27 : decode cX12_push 27 = .ok (.putfield 137, 3) := by decide +kernel
theorem dX12_push_30 : decode cX12_push 30 = .ok (.return_, 1) := by decide +kernel
theorem dX12_arcsFrom_0 : decode cX12_arcsFrom 0 = .ok (.iconst 0, 1) := by decide +kernel
theorem dX12_arcsFrom_1 : decode cX12_arcsFrom 1 = .ok (.istore_n 2, 1) := by decide +kernel
theorem dX12_arcsFrom_2 : decode cX12_arcsFrom 2 = .ok (.iconst 0, 1) := by decide +kernel
theorem dX12_arcsFrom_3 : decode cX12_arcsFrom 3 = .ok (.istore_n 3, 1) := by decide +kernel
theorem dX12_arcsFrom_4 : decode cX12_arcsFrom 4 = .ok (.iload_n 3, 1) := by decide +kernel
theorem dX12_arcsFrom_5 : decode cX12_arcsFrom 5 = .ok (.aload_n 0, 1) := by decide +kernel
theorem dX12_arcsFrom_6 : decode cX12_arcsFrom 6 = .ok (.getfield 119, 3) := by decide +kernel
theorem dX12_arcsFrom_9 : decode cX12_arcsFrom 9 = .ok (.if_icmp .ge 27, 3) := by decide +kernel
theorem dX12_arcsFrom_12 : decode cX12_arcsFrom 12 = .ok (.iload_n 2, 1) := by decide +kernel
theorem dX12_arcsFrom_13 : decode cX12_arcsFrom 13 = .ok (.aload_n 0, 1) := by decide +kernel
theorem dX12_arcsFrom_14 : decode cX12_arcsFrom 14 = .ok (.getfield 33, 3) := by decide +kernel
theorem dX12_arcsFrom_17 : decode cX12_arcsFrom 17 = .ok (.iload_n 3, 1) := by decide +kernel
theorem dX12_arcsFrom_18 : decode cX12_arcsFrom 18 = .ok (.iaload, 1) := by decide +kernel
theorem dX12_arcsFrom_19 : decode cX12_arcsFrom 19 = .ok (.iload_n 1, 1) := by decide +kernel
theorem dX12_arcsFrom_20 : decode cX12_arcsFrom 20 = .ok (.if_icmp .ne 7, 3) := by decide +kernel
theorem dX12_arcsFrom_23 : decode cX12_arcsFrom 23 = .ok (.iconst 1, 1) := by decide +kernel
theorem dX12_arcsFrom_24 : decode cX12_arcsFrom 24 = .ok (.goto 4, 3) := by decide +kernel
theorem dX12_arcsFrom_27 : decode cX12_arcsFrom 27 = .ok (.iconst 0, 1) := by decide +kernel
theorem dX12_arcsFrom_28 : decode cX12_arcsFrom 28 = .ok (.iadd, 1) := by decide +kernel
theorem dX12_arcsFrom_29 : decode cX12_arcsFrom 29 = .ok (.istore_n 2, 1) := by decide +kernel
theorem dX12_arcsFrom_30 : decode cX12_arcsFrom 30 = .ok (.iinc 3 1, 3) := by decide +kernel
theorem dX12_arcsFrom_33 : decode cX12_arcsFrom 33 = .ok (.goto (-29), 3) := by decide +kernel
theorem dX12_arcsFrom_36 : decode cX12_arcsFrom 36 = .ok (.iload_n 2, 1) := by decide +kernel
theorem dX12_arcsFrom_37 : decode cX12_arcsFrom 37 = .ok (.ireturn, 1) := by decide +kernel
theorem dX12_begins_0 : decode cX12_begins 0 = .ok (.aload_n 0, 1) := by decide +kernel
theorem dX12_begins_1 : decode cX12_begins 1 = .ok (.getfield 159, 3) := by decide +kernel
theorem dX12_begins_4 : decode cX12_begins 4 = .ok (.sipush 3000, 3) := by decide +kernel
theorem dX12_begins_7 : decode cX12_begins 7 = .ok (.if_icmp .ne 10, 3) := by decide +kernel
theorem dX12_begins_10 : decode cX12_begins 10 = .ok (.aload_n 0, 1) := by decide +kernel
theorem dX12_begins_11 : decode cX12_begins 11 = .ok (.iconst 4, 1) := by decide +kernel
theorem dX12_begins_12 : decode cX12_begins 12 = .ok (.putfield 146, 3) := by decide +kernel
theorem dX12_begins_15 : decode cX12_begins 15 = .ok (.iconst 1, 1) := by decide +kernel
theorem dX12_begins_16 : decode cX12_begins 16 = .ok (.ireturn, 1) := by decide +kernel
theorem dX12_begins_17 : decode cX12_begins 17 = .ok (.aload_n 0, 1) := by decide +kernel
theorem dX12_begins_18 : decode cX12_begins 18 = .ok (.dup, 1) := by decide +kernel
theorem dX12_begins_19 : decode cX12_begins 19 = .ok (.getfield 159, 3) := by decide +kernel
theorem dX12_begins_22 : decode cX12_begins 22 = .ok (.iconst 1, 1) := by decide +kernel
theorem dX12_begins_23 : decode cX12_begins 23 = .ok (.iadd, 1) := by decide +kernel
theorem dX12_begins_24 : decode cX12_begins 24 = .ok (.putfield 159, 3) := by decide +kernel
theorem dX12_begins_27 : decode cX12_begins 27 = .ok (.aload_n 0, 1) := by decide +kernel
theorem dX12_begins_28 : decode cX12_begins 28 = .ok (.dup, 1) := by decide +kernel
theorem dX12_begins_29 : decode cX12_begins 29 = .ok (.getfield 162, 3) := by decide +kernel
theorem dX12_begins_32 : decode cX12_begins 32 = .ok (.iconst 1, 1) := by decide +kernel
theorem dX12_begins_33 : decode cX12_begins 33 = .ok (.iadd, 1) := by decide +kernel
theorem dX12_begins_34 : decode cX12_begins 34 = .ok (.putfield 162, 3) := by decide +kernel
theorem dX12_begins_37 : decode cX12_begins 37 = .ok (.aload_n 0, 1) := by decide +kernel
theorem dX12_begins_38 : decode cX12_begins 38 = .ok (.getfield 66, 3) := by decide +kernel
theorem dX12_begins_41 : decode cX12_begins 41 = .ok (.iload_n 1, 1) := by decide +kernel
theorem dX12_begins_42 : decode cX12_begins 42 = .ok (.iaload, 1) := by decide +kernel
theorem dX12_begins_43 : decode cX12_begins 43 = .ok (.istore_n 2, 1) := by decide +kernel
theorem dX12_begins_44 : decode cX12_begins 44 = .ok (.aload_n 0, 1) := by decide +kernel
theorem dX12_begins_45 : decode cX12_begins 45 = .ok (.getfield 69, 3) := by decide +kernel
theorem dX12_begins_48 : decode cX12_begins 48 = .ok (.iload_n 1, 1) := by decide +kernel
theorem dX12_begins_49 : decode cX12_begins 49 = .ok (.iconst 1, 1) := by decide +kernel
theorem dX12_begins_50 : decode cX12_begins 50 = .ok (.iastore, 1) := by decide +kernel
theorem dX12_begins_51 : decode cX12_begins 51 = .ok (.aload_n 0, 1) := by decide +kernel
theorem dX12_begins_52 : decode cX12_begins 52 = .ok (.getfield 7, 3) := by decide +kernel
theorem dX12_begins_55 : decode cX12_begins 55 = .ok (.iload_n 2, 1) := by decide +kernel
theorem dX12_begins_56 : decode cX12_begins 56 = .ok (.iaload, 1) := by decide +kernel
theorem dX12_begins_57 : decode cX12_begins 57 = .ok (.tableswitch 170 0 7 #[47, 59, 84, 111, 121, 132, 145, 160], 47) := by decide +kernel
theorem dX12_begins_104 : decode cX12_begins 104 = .ok (.aload_n 0, 1) := by decide +kernel
theorem dX12_begins_105 : decode cX12_begins 105 = .ok (.aload_n 0, 1) := by decide +kernel
theorem dX12_begins_106 : decode cX12_begins 106 = .ok (.getfield 22, 3) := by decide +kernel
theorem dX12_begins_109 : decode cX12_begins 109 = .ok (.iload_n 2, 1) := by decide +kernel
theorem dX12_begins_110 : decode cX12_begins 110 = .ok (.laload, 1) := by decide +kernel
theorem dX12_begins_111 : decode cX12_begins 111 = .ok (.putfield 165, 3) := by decide +kernel
theorem dX12_begins_114 : decode cX12_begins 114 = .ok (.iconst 1, 1) := by decide +kernel
theorem dX12_begins_115 : decode cX12_begins 115 = .ok (.ireturn, 1) := by decide +kernel
theorem dX12_begins_116 : decode cX12_begins 116 = .ok (.aload_n 0, 1) := by decide +kernel
theorem dX12_begins_117 : decode cX12_begins 117 = .ok (.aload_n 0, 1) := by decide +kernel
theorem dX12_begins_118 : decode cX12_begins 118 = .ok (.getfield 26, 3) := by decide +kernel
theorem dX12_begins_121 : decode cX12_begins 121 = .ok (.iconst 3, 1) := by decide +kernel
theorem dX12_begins_122 : decode cX12_begins 122 = .ok (.aload_n 0, 1) := by decide +kernel
theorem dX12_begins_123 : decode cX12_begins 123 = .ok (.getfield 140, 3) := by decide +kernel
theorem dX12_begins_126 : decode cX12_begins 126 = .ok (.imul, 1) := by decide +kernel
theorem dX12_begins_127 : decode cX12_begins 127 = .ok (.aload_n 0, 1) := by decide +kernel
theorem dX12_begins_128 : decode cX12_begins 128 = .ok (.getfield 22, 3) := by decide +kernel
theorem dX12_begins_131 : decode cX12_begins 131 = .ok (.iload_n 2, 1) := by decide +kernel
theorem dX12_begins_132 : decode cX12_begins 132 = .ok (.laload, 1) := by decide +kernel
theorem dX12_begins_133 : decode cX12_begins 133 = .ok (.l2i, 1) := by decide +kernel
theorem dX12_begins_134 : decode cX12_begins 134 = .ok (.iadd, 1) := by decide +kernel
theorem dX12_begins_135 : decode cX12_begins 135 = .ok (.laload, 1) := by decide +kernel
theorem dX12_begins_136 : decode cX12_begins 136 = .ok (.putfield 165, 3) := by decide +kernel
theorem dX12_begins_139 : decode cX12_begins 139 = .ok (.iconst 1, 1) := by decide +kernel
theorem dX12_begins_140 : decode cX12_begins 140 = .ok (.ireturn, 1) := by decide +kernel
theorem dX12_begins_141 : decode cX12_begins 141 = .ok (.aload_n 0, 1) := by decide +kernel
theorem dX12_begins_142 : decode cX12_begins 142 = .ok (.aload_n 0, 1) := by decide +kernel
theorem dX12_begins_143 : decode cX12_begins 143 = .ok (.getfield 143, 3) := by decide +kernel
theorem dX12_begins_146 : decode cX12_begins 146 = .ok (.iconst (-1), 1) := by decide +kernel
theorem dX12_begins_147 : decode cX12_begins 147 = .ok (.if_icmp .ne 7, 3) := by decide +kernel
theorem dX12_begins_150 : decode cX12_begins 150 = .ok (.lconst 0, 1) := by decide +kernel
theorem dX12_begins_151 : decode cX12_begins 151 = .ok (.goto 12, 3) := by decide +kernel
theorem dX12_begins_154 : decode cX12_begins 154 = .ok (.aload_n 0, 1) := by decide +kernel
theorem dX12_begins_155 : decode cX12_begins 155 = .ok (.getfield 39, 3) := by decide +kernel
theorem dX12_begins_158 : decode cX12_begins 158 = .ok (.aload_n 0, 1) := by decide +kernel
theorem dX12_begins_159 : decode cX12_begins 159 = .ok (.getfield 143, 3) := by decide +kernel
theorem dX12_begins_162 : decode cX12_begins 162 = .ok (.laload, 1) := by decide +kernel
theorem dX12_begins_163 : decode cX12_begins 163 = .ok (.putfield 165, 3) := by decide +kernel
theorem dX12_begins_166 : decode cX12_begins 166 = .ok (.iconst 1, 1) := by decide +kernel
theorem dX12_begins_167 : decode cX12_begins 167 = .ok (.ireturn, 1) := by decide +kernel
theorem dX12_begins_168 : decode cX12_begins 168 = .ok (.aload_n 0, 1) := by decide +kernel
theorem dX12_begins_169 : decode cX12_begins 169 = .ok (.aload_n 0, 1) := by decide +kernel
theorem dX12_begins_170 : decode cX12_begins 170 = .ok (.getfield 169, 3) := by decide +kernel
theorem dX12_begins_173 : decode cX12_begins 173 = .ok (.putfield 165, 3) := by decide +kernel
theorem dX12_begins_176 : decode cX12_begins 176 = .ok (.iconst 1, 1) := by decide +kernel
theorem dX12_begins_177 : decode cX12_begins 177 = .ok (.ireturn, 1) := by decide +kernel
theorem dX12_begins_178 : decode cX12_begins 178 = .ok (.aload_n 0, 1) := by decide +kernel
theorem dX12_begins_179 : decode cX12_begins 179 = .ok (.aload_n 0, 1) := by decide +kernel
theorem dX12_begins_180 : decode cX12_begins 180 = .ok (.getfield 172, 3) := by decide +kernel
theorem dX12_begins_183 : decode cX12_begins 183 = .ok (.i2l, 1) := by decide +kernel
theorem dX12_begins_184 : decode cX12_begins 184 = .ok (.putfield 165, 3) := by decide +kernel
theorem dX12_begins_187 : decode cX12_begins 187 = .ok (.iconst 1, 1) := by decide +kernel
theorem dX12_begins_188 : decode cX12_begins 188 = .ok (.ireturn, 1) := by decide +kernel
theorem dX12_begins_189 : decode cX12_begins 189 = .ok (.aload_n 0, 1) := by decide +kernel
theorem dX12_begins_190 : decode cX12_begins 190 = .ok (.aload_n 0, 1) := by decide +kernel
theorem dX12_begins_191 : decode cX12_begins 191 = .ok (.getfield 175, 3) := by decide +kernel
theorem dX12_begins_194 : decode cX12_begins 194 = .ok (.i2l, 1) := by decide +kernel
theorem dX12_begins_195 : decode cX12_begins 195 = .ok (.lconst 1, 1) := by decide +kernel
theorem dX12_begins_196 : decode cX12_begins 196 = .ok (.ladd, 1) := by decide +kernel
theorem dX12_begins_197 : decode cX12_begins 197 = .ok (.putfield 165, 3) := by decide +kernel
theorem dX12_begins_200 : decode cX12_begins 200 = .ok (.iconst 1, 1) := by decide +kernel
theorem dX12_begins_201 : decode cX12_begins 201 = .ok (.ireturn, 1) := by decide +kernel
theorem dX12_begins_202 : decode cX12_begins 202 = .ok (.aload_n 0, 1) := by decide +kernel
theorem dX12_begins_203 : decode cX12_begins 203 = .ok (.aload_n 0, 1) := by decide +kernel
theorem dX12_begins_204 : decode cX12_begins 204 = .ok (.aload_n 0, 1) := by decide +kernel
theorem dX12_begins_205 : decode cX12_begins 205 = .ok (.getfield 140, 3) := by decide +kernel
theorem dX12_begins_208 : decode cX12_begins 208 = .ok (.invokevirtual 178, 3) := by decide +kernel
theorem dX12_begins_211 : decode cX12_begins 211 = .ok (.i2l, 1) := by decide +kernel
theorem dX12_begins_212 : decode cX12_begins 212 = .ok (.putfield 165, 3) := by decide +kernel
theorem dX12_begins_215 : decode cX12_begins 215 = .ok (.iconst 1, 1) := by decide +kernel
theorem dX12_begins_216 : decode cX12_begins 216 = .ok (.ireturn, 1) := by decide +kernel
theorem dX12_begins_217 : decode cX12_begins 217 = .ok (.aload_n 0, 1) := by decide +kernel
theorem dX12_begins_218 : decode cX12_begins 218 = .ok (.aload_n 0, 1) := by decide +kernel
theorem dX12_begins_219 : decode cX12_begins 219 = .ok (.getfield 182, 3) := by decide +kernel
theorem dX12_begins_222 : decode cX12_begins 222 = .ok (.putfield 165, 3) := by decide +kernel
theorem dX12_begins_225 : decode cX12_begins 225 = .ok (.iconst 1, 1) := by decide +kernel
theorem dX12_begins_226 : decode cX12_begins 226 = .ok (.ireturn, 1) := by decide +kernel
theorem dX12_begins_227 : decode cX12_begins 227 = .ok (.aload_n 0, 1) := by decide +kernel
theorem dX12_begins_228 : decode cX12_begins 228 = .ok (.aload_n 0, 1) := by decide +kernel
theorem dX12_begins_229 : decode cX12_begins 229 = .ok (.getfield 13, 3) := by decide +kernel
theorem dX12_begins_232 : decode cX12_begins 232 = .ok (.iload_n 2, 1) := by decide +kernel
theorem dX12_begins_233 : decode cX12_begins 233 = .ok (.iaload, 1) := by decide +kernel
theorem dX12_begins_234 : decode cX12_begins 234 = .ok (.invokevirtual 149, 3) := by decide +kernel
theorem dX12_begins_237 : decode cX12_begins 237 = .ok (.iconst 0, 1) := by decide +kernel
theorem dX12_begins_238 : decode cX12_begins 238 = .ok (.ireturn, 1) := by decide +kernel
theorem dX12_joined_0 : decode cX12_joined 0 = .ok (.iload_n 1, 1) := by decide +kernel
theorem dX12_joined_1 : decode cX12_joined 1 = .ok (.tableswitch 131 8 14 #[43, 48, 53, 58, 58, 103, 117], 43) := by decide +kernel
theorem dX12_joined_44 : decode cX12_joined 44 = .ok (.lload_n 2, 1) := by decide +kernel
theorem dX12_joined_45 : decode cX12_joined 45 = .ok (.lload 4, 2) := by decide +kernel
theorem dX12_joined_47 : decode cX12_joined 47 = .ok (.ladd, 1) := by decide +kernel
theorem dX12_joined_48 : decode cX12_joined 48 = .ok (.lreturn, 1) := by decide +kernel
theorem dX12_joined_49 : decode cX12_joined 49 = .ok (.lload_n 2, 1) := by decide +kernel
theorem dX12_joined_50 : decode cX12_joined 50 = .ok (.lload 4, 2) := by decide +kernel
theorem dX12_joined_52 : decode cX12_joined 52 = .ok (.lsub, 1) := by decide +kernel
theorem dX12_joined_53 : decode cX12_joined 53 = .ok (.lreturn, 1) := by decide +kernel
theorem dX12_joined_54 : decode cX12_joined 54 = .ok (.lload_n 2, 1) := by decide +kernel
theorem dX12_joined_55 : decode cX12_joined 55 = .ok (.lload 4, 2) := by decide +kernel
theorem dX12_joined_57 : decode cX12_joined 57 = .ok (.lmul, 1) := by decide +kernel
theorem dX12_joined_58 : decode cX12_joined 58 = .ok (.lreturn, 1) := by decide +kernel
theorem dX12_joined_59 : decode cX12_joined 59 = .ok (.aload_n 0, 1) := by decide +kernel
theorem dX12_joined_60 : decode cX12_joined 60 = .ok (.lload 4, 2) := by decide +kernel
theorem dX12_joined_62 : decode cX12_joined 62 = .ok (.lconst 0, 1) := by decide +kernel
theorem dX12_joined_63 : decode cX12_joined 63 = .ok (.lcmp, 1) := by decide +kernel
theorem dX12_joined_64 : decode cX12_joined 64 = .ok (.ifCond .ne 7, 3) := by decide +kernel
theorem dX12_joined_67 : decode cX12_joined 67 = .ok (.iconst 1, 1) := by decide +kernel
theorem dX12_joined_68 : decode cX12_joined 68 = .ok (.goto 4, 3) := by decide +kernel
theorem dX12_joined_71 : decode cX12_joined 71 = .ok (.iconst 0, 1) := by decide +kernel
theorem dX12_joined_72 : decode cX12_joined 72 = .ok (.putfield 146, 3) := by decide +kernel
theorem dX12_joined_75 : decode cX12_joined 75 = .ok (.lload 4, 2) := by decide +kernel
theorem dX12_joined_77 : decode cX12_joined 77 = .ok (.lconst 0, 1) := by decide +kernel
theorem dX12_joined_78 : decode cX12_joined 78 = .ok (.lcmp, 1) := by decide +kernel
theorem dX12_joined_79 : decode cX12_joined 79 = .ok (.ifCond .ne 7, 3) := by decide +kernel
theorem dX12_joined_82 : decode cX12_joined 82 = .ok (.lconst 0, 1) := by decide +kernel
theorem dX12_joined_83 : decode cX12_joined 83 = .ok (.goto 20, 3) := by decide +kernel
theorem dX12_joined_86 : decode cX12_joined 86 = .ok (.iload_n 1, 1) := by decide +kernel
theorem dX12_joined_87 : decode cX12_joined 87 = .ok (.bipush 11, 2) := by decide +kernel
theorem dX12_joined_89 : decode cX12_joined 89 = .ok (.if_icmp .ne 10, 3) := by decide +kernel
theorem dX12_joined_92 : decode cX12_joined 92 = .ok (.lload_n 2, 1) := by decide +kernel
theorem dX12_joined_93 : decode cX12_joined 93 = .ok (.lload 4, 2) := by decide +kernel
theorem dX12_joined_95 : decode cX12_joined 95 = .ok (.ldiv, 1) := by decide +kernel
theorem dX12_joined_96 : decode cX12_joined 96 = .ok (.goto 7, 3) := by decide +kernel
theorem dX12_joined_99 : decode cX12_joined 99 = .ok (.lload_n 2, 1) := by decide +kernel
theorem dX12_joined_100 : decode cX12_joined 100 = .ok (.lload 4, 2) := by decide +kernel
theorem dX12_joined_102 : decode cX12_joined 102 = .ok (.lrem, 1) := by decide +kernel
theorem dX12_joined_103 : decode cX12_joined 103 = .ok (.lreturn, 1) := by decide +kernel
theorem dX12_joined_104 : decode cX12_joined 104 = .ok (.lload_n 2, 1) := by decide +kernel
theorem dX12_joined_105 : decode cX12_joined 105 = .ok (.lload 4, 2) := by decide +kernel
theorem dX12_joined_107 : decode cX12_joined 107 = .ok (.lcmp, 1) := by decide +kernel
theorem dX12_joined_108 : decode cX12_joined 108 = .ok (.ifCond .ge 7, 3) := by decide +kernel
theorem dX12_joined_111 : decode cX12_joined 111 = .ok (.lload_n 2, 1) := by decide +kernel
theorem dX12_joined_112 : decode cX12_joined 112 = .ok (.goto 5, 3) := by decide +kernel
theorem dX12_joined_115 : decode cX12_joined 115 = .ok (.lload 4, 2) := by decide +kernel
theorem dX12_joined_117 : decode cX12_joined 117 = .ok (.lreturn, 1) := by decide +kernel
theorem dX12_joined_118 : decode cX12_joined 118 = .ok (.lload_n 2, 1) := by decide +kernel
theorem dX12_joined_119 : decode cX12_joined 119 = .ok (.lload 4, 2) := by decide +kernel
theorem dX12_joined_121 : decode cX12_joined 121 = .ok (.lcmp, 1) := by decide +kernel
theorem dX12_joined_122 : decode cX12_joined 122 = .ok (.ifCond .le 7, 3) := by decide +kernel
theorem dX12_joined_125 : decode cX12_joined 125 = .ok (.lload_n 2, 1) := by decide +kernel
theorem dX12_joined_126 : decode cX12_joined 126 = .ok (.goto 5, 3) := by decide +kernel
theorem dX12_joined_129 : decode cX12_joined 129 = .ok (.lload 4, 2) := by decide +kernel
theorem dX12_joined_131 : decode cX12_joined 131 = .ok (.lreturn, 1) := by decide +kernel
theorem dX12_joined_132 : decode cX12_joined 132 = .ok (.lload_n 2, 1) := by decide +kernel
theorem dX12_joined_133 : decode cX12_joined 133 = .ok (.lload 4, 2) := by decide +kernel
theorem dX12_joined_135 : decode cX12_joined 135 = .ok (.lcmp, 1) := by decide +kernel
theorem dX12_joined_136 : decode cX12_joined 136 = .ok (.ifCond .ge 7, 3) := by decide +kernel
theorem dX12_joined_139 : decode cX12_joined 139 = .ok (.lconst 1, 1) := by decide +kernel
theorem dX12_joined_140 : decode cX12_joined 140 = .ok (.goto 4, 3) := by decide +kernel
theorem dX12_joined_143 : decode cX12_joined 143 = .ok (.lconst 0, 1) := by decide +kernel
theorem dX12_joined_144 : decode cX12_joined 144 = .ok (.lreturn, 1) := by decide +kernel
theorem dX12_clearFailed_0 : decode cX12_clearFailed 0 = .ok (.aload_n 0, 1) := by decide +kernel
theorem dX12_clearFailed_1 : decode cX12_clearFailed 1 = .ok (.getfield 45, 3) := by decide +kernel
theorem dX12_clearFailed_4 : decode cX12_clearFailed 4 = .ok (.iconst 0, 1) := by decide +kernel
theorem dX12_clearFailed_5 : decode cX12_clearFailed 5 = .ok (.iconst 0, 1) := by decide +kernel
theorem dX12_clearFailed_6 : decode cX12_clearFailed 6 = .ok (.iastore, 1) := by decide +kernel
theorem dX12_clearFailed_7 : decode cX12_clearFailed 7 = .ok (.iconst 1, 1) := by decide +kernel
theorem dX12_clearFailed_8 : decode cX12_clearFailed 8 = .ok (.istore_n 1, 1) := by decide +kernel
theorem dX12_clearFailed_9 : decode cX12_clearFailed 9 = .ok (.iload_n 1, 1) := by decide +kernel
theorem dX12_clearFailed_10 : decode cX12_clearFailed 10 = .ok (.iconst 5, 1) := by decide +kernel
theorem dX12_clearFailed_11 : decode cX12_clearFailed 11 = .ok (.if_icmp .ge 16, 3) := by decide +kernel
theorem dX12_clearFailed_14 : decode cX12_clearFailed 14 = .ok (.aload_n 0, 1) := by decide +kernel
theorem dX12_clearFailed_15 : decode cX12_clearFailed 15 = .ok (.getfield 45, 3) := by decide +kernel
theorem dX12_clearFailed_18 : decode cX12_clearFailed 18 = .ok (.iload_n 1, 1) := by decide +kernel
theorem dX12_clearFailed_19 : decode cX12_clearFailed 19 = .ok (.iconst (-1), 1) := by decide +kernel
theorem dX12_clearFailed_20 : decode cX12_clearFailed 20 = .ok (.iastore, 1) := by decide +kernel
theorem dX12_clearFailed_21 : decode cX12_clearFailed 21 = .ok (.iinc 1 1, 3) := by decide +kernel
theorem dX12_clearFailed_24 : decode cX12_clearFailed 24 = .ok (.goto (-15), 3) := by decide +kernel
theorem dX12_clearFailed_27 : decode cX12_clearFailed 27 = .ok (.return_, 1) := by decide +kernel
theorem dX12_note_0 : decode cX12_note 0 = .ok (.aload_n 0, 1) := by decide +kernel
theorem dX12_note_1 : decode cX12_note 1 = .ok (.getfield 45, 3) := by decide +kernel
theorem dX12_note_4 : decode cX12_note 4 = .ok (.iconst 0, 1) := by decide +kernel
theorem dX12_note_5 : decode cX12_note 5 = .ok (.iload_n 1, 1) := by decide +kernel
theorem dX12_note_6 : decode cX12_note 6 = .ok (.iastore, 1) := by decide +kernel
theorem dX12_note_7 : decode cX12_note 7 = .ok (.aload_n 0, 1) := by decide +kernel
theorem dX12_note_8 : decode cX12_note 8 = .ok (.getfield 45, 3) := by decide +kernel
theorem dX12_note_11 : decode cX12_note 11 = .ok (.iconst 1, 1) := by decide +kernel
theorem dX12_note_12 : decode cX12_note 12 = .ok (.iload_n 2, 1) := by decide +kernel
theorem dX12_note_13 : decode cX12_note 13 = .ok (.iastore, 1) := by decide +kernel
theorem dX12_note_14 : decode cX12_note 14 = .ok (.aload_n 0, 1) := by decide +kernel
theorem dX12_note_15 : decode cX12_note 15 = .ok (.getfield 45, 3) := by decide +kernel
theorem dX12_note_18 : decode cX12_note 18 = .ok (.iconst 2, 1) := by decide +kernel
theorem dX12_note_19 : decode cX12_note 19 = .ok (.iload_n 3, 1) := by decide +kernel
theorem dX12_note_20 : decode cX12_note 20 = .ok (.iastore, 1) := by decide +kernel
theorem dX12_note_21 : decode cX12_note 21 = .ok (.aload_n 0, 1) := by decide +kernel
theorem dX12_note_22 : decode cX12_note 22 = .ok (.getfield 45, 3) := by decide +kernel
theorem dX12_note_25 : decode cX12_note 25 = .ok (.iconst 3, 1) := by decide +kernel
theorem dX12_note_26 : decode cX12_note 26 = .ok (.iload 4, 2) := by decide +kernel
theorem dX12_note_28 : decode cX12_note 28 = .ok (.iastore, 1) := by decide +kernel
theorem dX12_note_29 : decode cX12_note 29 = .ok (.aload_n 0, 1) := by decide +kernel
theorem dX12_note_30 : decode cX12_note 30 = .ok (.getfield 45, 3) := by decide +kernel
theorem dX12_note_33 : decode cX12_note 33 = .ok (.iconst 4, 1) := by decide +kernel
theorem dX12_note_34 : decode cX12_note 34 = .ok (.aload_n 0, 1) := by decide +kernel
theorem dX12_note_35 : decode cX12_note 35 = .ok (.getfield 175, 3) := by decide +kernel
theorem dX12_note_38 : decode cX12_note 38 = .ok (.iconst 1, 1) := by decide +kernel
theorem dX12_note_39 : decode cX12_note 39 = .ok (.iadd, 1) := by decide +kernel
theorem dX12_note_40 : decode cX12_note 40 = .ok (.iastore, 1) := by decide +kernel
theorem dX12_note_41 : decode cX12_note 41 = .ok (.return_, 1) := by decide +kernel
theorem dX12_isFailed_0 : decode cX12_isFailed 0 = .ok (.aload_n 0, 1) := by decide +kernel
theorem dX12_isFailed_1 : decode cX12_isFailed 1 = .ok (.getfield 45, 3) := by decide +kernel
theorem dX12_isFailed_4 : decode cX12_isFailed 4 = .ok (.iconst 0, 1) := by decide +kernel
theorem dX12_isFailed_5 : decode cX12_isFailed 5 = .ok (.iaload, 1) := by decide +kernel
theorem dX12_isFailed_6 : decode cX12_isFailed 6 = .ok (.ifCond .eq 7, 3) := by decide +kernel
theorem dX12_isFailed_9 : decode cX12_isFailed 9 = .ok (.iconst 1, 1) := by decide +kernel
theorem dX12_isFailed_10 : decode cX12_isFailed 10 = .ok (.goto 4, 3) := by decide +kernel
theorem dX12_isFailed_13 : decode cX12_isFailed 13 = .ok (.iconst 0, 1) := by decide +kernel
theorem dX12_isFailed_14 : decode cX12_isFailed 14 = .ok (.ireturn, 1) := by decide +kernel
theorem dX12_isOver_0 : decode cX12_isOver 0 = .ok (.lload_n 1, 1) := by decide +kernel
theorem dX12_isOver_1 : decode cX12_isOver 1 = .ok (.lload_n 3, 1) := by decide +kernel
theorem dX12_isOver_2 : decode cX12_isOver 2 = .ok (.ladd, 1) := by decide +kernel
theorem dX12_isOver_3 : decode cX12_isOver 3 = .ok (.lstore 5, 2) := by decide +kernel
theorem dX12_isOver_5 : decode cX12_isOver 5 = .ok (.lload_n 1, 1) := by decide +kernel
theorem dX12_isOver_6 : decode cX12_isOver 6 = .ok (.lload 5, 2) := by decide +kernel
theorem dX12_isOver_8 : decode cX12_isOver 8 = .ok (.lxor, 1) := by decide +kernel
theorem dX12_isOver_9 : decode cX12_isOver 9 = .ok (.lconst 0, 1) := by decide +kernel
theorem dX12_isOver_10 : decode cX12_isOver 10 = .ok (.lcmp, 1) := by decide +kernel
theorem dX12_isOver_11 : decode cX12_isOver 11 = .ok (.ifCond .ge 16, 3) := by decide +kernel
theorem dX12_isOver_14 : decode cX12_isOver 14 = .ok (.lload_n 3, 1) := by decide +kernel
theorem dX12_isOver_15 : decode cX12_isOver 15 = .ok (.lload 5, 2) := by decide +kernel
theorem dX12_isOver_17 : decode cX12_isOver 17 = .ok (.lxor, 1) := by decide +kernel
theorem dX12_isOver_18 : decode cX12_isOver 18 = .ok (.lconst 0, 1) := by decide +kernel
theorem dX12_isOver_19 : decode cX12_isOver 19 = .ok (.lcmp, 1) := by decide +kernel
theorem dX12_isOver_20 : decode cX12_isOver 20 = .ok (.ifCond .ge 7, 3) := by decide +kernel
theorem dX12_isOver_23 : decode cX12_isOver 23 = .ok (.iconst 1, 1) := by decide +kernel
theorem dX12_isOver_24 : decode cX12_isOver 24 = .ok (.goto 4, 3) := by decide +kernel
theorem dX12_isOver_27 : decode cX12_isOver 27 = .ok (.iconst 0, 1) := by decide +kernel
theorem dX12_isOver_28 : decode cX12_isOver 28 = .ok (.ireturn, 1) := by decide +kernel
theorem dX12_foldFor_0 : decode cX12_foldFor 0 = .ok (.aload_n 0, 1) := by decide +kernel
theorem dX12_foldFor_1 : decode cX12_foldFor 1 = .ok (.lconst 0, 1) := by decide +kernel
theorem dX12_foldFor_2 : decode cX12_foldFor 2 = .ok (.putfield 169, 3) := by decide +kernel
theorem dX12_foldFor_5 : decode cX12_foldFor 5 = .ok (.aload_n 0, 1) := by decide +kernel
theorem dX12_foldFor_6 : decode cX12_foldFor 6 = .ok (.iconst 0, 1) := by decide +kernel
theorem dX12_foldFor_7 : decode cX12_foldFor 7 = .ok (.putfield 172, 3) := by decide +kernel
theorem dX12_foldFor_10 : decode cX12_foldFor 10 = .ok (.iconst 0, 1) := by decide +kernel
theorem dX12_foldFor_11 : decode cX12_foldFor 11 = .ok (.istore_n 2, 1) := by decide +kernel
theorem dX12_foldFor_12 : decode cX12_foldFor 12 = .ok (.iload_n 2, 1) := by decide +kernel
theorem dX12_foldFor_13 : decode cX12_foldFor 13 = .ok (.aload_n 0, 1) := by decide +kernel
theorem dX12_foldFor_14 : decode cX12_foldFor 14 = .ok (.getfield 119, 3) := by decide +kernel
theorem dX12_foldFor_17 : decode cX12_foldFor 17 = .ok (.if_icmp .ge 169, 3) := by decide +kernel
theorem dX12_foldFor_20 : decode cX12_foldFor 20 = .ok (.aload_n 0, 1) := by decide +kernel
theorem dX12_foldFor_21 : decode cX12_foldFor 21 = .ok (.getfield 75, 3) := by decide +kernel
theorem dX12_foldFor_24 : decode cX12_foldFor 24 = .ok (.iload_n 2, 1) := by decide +kernel
theorem dX12_foldFor_25 : decode cX12_foldFor 25 = .ok (.baload, 1) := by decide +kernel
theorem dX12_foldFor_26 : decode cX12_foldFor 26 = .ok (.ifCond .eq 154, 3) := by decide +kernel
theorem dX12_foldFor_29 : decode cX12_foldFor 29 = .ok (.aload_n 0, 1) := by decide +kernel
theorem dX12_foldFor_30 : decode cX12_foldFor 30 = .ok (.getfield 36, 3) := by decide +kernel
theorem dX12_foldFor_33 : decode cX12_foldFor 33 = .ok (.iload_n 2, 1) := by decide +kernel
theorem dX12_foldFor_34 : decode cX12_foldFor 34 = .ok (.iaload, 1) := by decide +kernel
theorem dX12_foldFor_35 : decode cX12_foldFor 35 = .ok (.iload_n 1, 1) := by decide +kernel
theorem dX12_foldFor_36 : decode cX12_foldFor 36 = .ok (.if_icmp .ne 144, 3) := by decide +kernel
theorem dX12_foldFor_39 : decode cX12_foldFor 39 = .ok (.aload_n 0, 1) := by decide +kernel
theorem dX12_foldFor_40 : decode cX12_foldFor 40 = .ok (.invokevirtual 210, 3) := by decide +kernel
theorem dX12_foldFor_43 : decode cX12_foldFor 43 = .ok (.ifCond .ne 137, 3) := by decide +kernel
theorem dX12_foldFor_46 : decode cX12_foldFor 46 = .ok (.aload_n 0, 1) := by decide +kernel
theorem dX12_foldFor_47 : decode cX12_foldFor 47 = .ok (.getfield 78, 3) := by decide +kernel
theorem dX12_foldFor_50 : decode cX12_foldFor 50 = .ok (.iload_n 2, 1) := by decide +kernel
theorem dX12_foldFor_51 : decode cX12_foldFor 51 = .ok (.laload, 1) := by decide +kernel
theorem dX12_foldFor_52 : decode cX12_foldFor 52 = .ok (.lstore_n 3, 1) := by decide +kernel
theorem dX12_foldFor_53 : decode cX12_foldFor 53 = .ok (.aload_n 0, 1) := by decide +kernel
theorem dX12_foldFor_54 : decode cX12_foldFor 54 = .ok (.getfield 172, 3) := by decide +kernel
theorem dX12_foldFor_57 : decode cX12_foldFor 57 = .ok (.ifCond .eq 11, 3) := by decide +kernel
theorem dX12_foldFor_60 : decode cX12_foldFor 60 = .ok (.aload_n 0, 1) := by decide +kernel
theorem dX12_foldFor_61 : decode cX12_foldFor 61 = .ok (.getfield 134, 3) := by decide +kernel
theorem dX12_foldFor_64 : decode cX12_foldFor 64 = .ok (.iconst 3, 1) := by decide +kernel
theorem dX12_foldFor_65 : decode cX12_foldFor 65 = .ok (.if_icmp .ne 11, 3) := by decide +kernel
theorem dX12_foldFor_68 : decode cX12_foldFor 68 = .ok (.aload_n 0, 1) := by decide +kernel
theorem dX12_foldFor_69 : decode cX12_foldFor 69 = .ok (.lload_n 3, 1) := by decide +kernel
theorem dX12_foldFor_70 : decode cX12_foldFor 70 = .ok (.putfield 169, 3) := by decide +kernel
theorem dX12_foldFor_73 : decode cX12_foldFor 73 = .ok (.goto 97, 3) := by decide +kernel
theorem dX12_foldFor_76 : decode cX12_foldFor 76 = .ok (.aload_n 0, 1) := by decide +kernel
theorem dX12_foldFor_77 : decode cX12_foldFor 77 = .ok (.getfield 134, 3) := by decide +kernel
theorem dX12_foldFor_80 : decode cX12_foldFor 80 = .ok (.ifCond .ne 37, 3) := by decide +kernel
theorem dX12_foldFor_83 : decode cX12_foldFor 83 = .ok (.aload_n 0, 1) := by decide +kernel
theorem dX12_foldFor_84 : decode cX12_foldFor 84 = .ok (.aload_n 0, 1) := by decide +kernel
theorem dX12_foldFor_85 : decode cX12_foldFor 85 = .ok (.getfield 169, 3) := by decide +kernel
theorem dX12_foldFor_88 : decode cX12_foldFor 88 = .ok (.lload_n 3, 1) := by decide +kernel
theorem dX12_foldFor_89 : decode cX12_foldFor 89 = .ok (.invokevirtual 220, 3) := by decide +kernel
theorem dX12_foldFor_92 : decode cX12_foldFor 92 = .ok (.ifCond .eq 12, 3) := by decide +kernel
theorem dX12_foldFor_95 : decode cX12_foldFor 95 = .ok (.aload_n 0, 1) := by decide +kernel
theorem dX12_foldFor_96 : decode cX12_foldFor 96 = .ok (.iconst 3, 1) := by decide +kernel
theorem dX12_foldFor_97 : decode cX12_foldFor 97 = .ok (.bipush 7, 2) := by decide +kernel
theorem dX12_foldFor_99 : decode cX12_foldFor 99 = .ok (.iload_n 1, 1) := by decide +kernel
theorem dX12_foldFor_100 : decode cX12_foldFor 100 = .ok (.iconst (-1), 1) := by decide +kernel
theorem dX12_foldFor_101 : decode cX12_foldFor 101 = .ok (.invokevirtual 193, 3) := by decide +kernel
theorem dX12_foldFor_104 : decode cX12_foldFor 104 = .ok (.aload_n 0, 1) := by decide +kernel
theorem dX12_foldFor_105 : decode cX12_foldFor 105 = .ok (.aload_n 0, 1) := by decide +kernel
theorem dX12_foldFor_106 : decode cX12_foldFor 106 = .ok (.getfield 169, 3) := by decide +kernel
theorem dX12_foldFor_109 : decode cX12_foldFor 109 = .ok (.lload_n 3, 1) := by decide +kernel
theorem dX12_foldFor_110 : decode cX12_foldFor 110 = .ok (.ladd, 1) := by decide +kernel
theorem dX12_foldFor_111 : decode cX12_foldFor 111 = .ok (.putfield 169, 3) := by decide +kernel
theorem dX12_foldFor_114 : decode cX12_foldFor 114 = .ok (.goto 56, 3) := by decide +kernel
theorem dX12_foldFor_117 : decode cX12_foldFor 117 = .ok (.aload_n 0, 1) := by decide +kernel
theorem dX12_foldFor_118 : decode cX12_foldFor 118 = .ok (.getfield 134, 3) := by decide +kernel
theorem dX12_foldFor_121 : decode cX12_foldFor 121 = .ok (.iconst 1, 1) := by decide +kernel
theorem dX12_foldFor_122 : decode cX12_foldFor 122 = .ok (.if_icmp .ne 27, 3) := by decide +kernel
theorem dX12_foldFor_125 : decode cX12_foldFor 125 = .ok (.aload_n 0, 1) := by decide +kernel
theorem dX12_foldFor_126 : decode cX12_foldFor 126 = .ok (.lload_n 3, 1) := by decide +kernel
theorem dX12_foldFor_127 : decode cX12_foldFor 127 = .ok (.aload_n 0, 1) := by decide +kernel
theorem dX12_foldFor_128 : decode cX12_foldFor 128 = .ok (.getfield 169, 3) := by decide +kernel
theorem dX12_foldFor_131 : decode cX12_foldFor 131 = .ok (.lcmp, 1) := by decide +kernel
theorem dX12_foldFor_132 : decode cX12_foldFor 132 = .ok (.ifCond .ge 7, 3) := by decide +kernel
theorem dX12_foldFor_135 : decode cX12_foldFor 135 = .ok (.lload_n 3, 1) := by decide +kernel
theorem dX12_foldFor_136 : decode cX12_foldFor 136 = .ok (.goto 7, 3) := by decide +kernel
theorem dX12_foldFor_139 : decode cX12_foldFor 139 = .ok (.aload_n 0, 1) := by decide +kernel
theorem dX12_foldFor_140 : decode cX12_foldFor 140 = .ok (.getfield 169, 3) := by decide +kernel
theorem dX12_foldFor_143 : decode cX12_foldFor 143 = .ok (.putfield 169, 3) := by decide +kernel
theorem dX12_foldFor_146 : decode cX12_foldFor 146 = .ok (.goto 24, 3) := by decide +kernel
theorem dX12_foldFor_149 : decode cX12_foldFor 149 = .ok (.aload_n 0, 1) := by decide +kernel
theorem dX12_foldFor_150 : decode cX12_foldFor 150 = .ok (.lload_n 3, 1) := by decide +kernel
theorem dX12_foldFor_151 : decode cX12_foldFor 151 = .ok (.aload_n 0, 1) := by decide +kernel
theorem dX12_foldFor_152 : decode cX12_foldFor 152 = .ok (.getfield 169, 3) := by decide +kernel
theorem dX12_foldFor_155 : decode cX12_foldFor 155 = .ok (.lcmp, 1) := by decide +kernel
theorem dX12_foldFor_156 : decode cX12_foldFor 156 = .ok (.ifCond .le 7, 3) := by decide +kernel
theorem dX12_foldFor_159 : decode cX12_foldFor 159 = .ok (.lload_n 3, 1) := by decide +kernel
theorem dX12_foldFor_160 : decode cX12_foldFor 160 = .ok (.goto 7, 3) := by decide +kernel
theorem dX12_foldFor_163 : decode cX12_foldFor 163 = .ok (.aload_n 0, 1) := by decide +kernel
theorem dX12_foldFor_164 : decode cX12_foldFor 164 = .ok (.getfield 169, 3) := by decide +kernel
theorem dX12_foldFor_167 : decode cX12_foldFor 167 = .ok (.putfield 169, 3) := by decide +kernel
theorem dX12_foldFor_170 : decode cX12_foldFor 170 = .ok (.aload_n 0, 1) := by decide +kernel
theorem dX12_foldFor_171 : decode cX12_foldFor 171 = .ok (.dup, 1) := by decide +kernel
theorem dX12_foldFor_172 : decode cX12_foldFor 172 = .ok (.getfield 172, 3) := by decide +kernel
theorem dX12_foldFor_175 : decode cX12_foldFor 175 = .ok (.iconst 1, 1) := by decide +kernel
theorem dX12_foldFor_176 : decode cX12_foldFor 176 = .ok (.iadd, 1) := by decide +kernel
theorem dX12_foldFor_177 : decode cX12_foldFor 177 = .ok (.putfield 172, 3) := by decide +kernel
theorem dX12_foldFor_180 : decode cX12_foldFor 180 = .ok (.iinc 2 1, 3) := by decide +kernel
theorem dX12_foldFor_183 : decode cX12_foldFor 183 = .ok (.goto (-171), 3) := by decide +kernel
theorem dX12_foldFor_186 : decode cX12_foldFor 186 = .ok (.return_, 1) := by decide +kernel
def rm_rX12_push : Room := { frames := 0, cells := 0, slots := 0, locals := 0 }
def G_rX12_push (p : Program) (l : Launch) (e : Env) (s : State) (m : MethodId) (args : Array Value) (below : List Frame) (meth : Method) (c : Code) (dC : Nat → ClassId) (dI : Nat → Nat → Nat) (kA : Nat → ClassId) (ad : Nat → Nat) (res : RS) (F : RS → Int32 → Option (RS)) : Prop := ∀ (σ : RS) (x1 : Int32), F σ x1 = some res → ∀ (H : Heap) (locs : List Loc) (ls : Array Slot), va_P (dC, dI) vwCl (r_w kA ad σ) H → va_S (jw_A 32 ad) s.heap H locs → lv_has ls 2 [(0, .ref (ad 0)), (1, .int x1)] → W p l e rm_rX12_push s m args below meth c H locs 0 0 (r_Qu below dC dI kA ad args s res) (F0 m 0 ls [])
def s_rX12_push (σ : RS) (x1 : Int32) : Option (RS) := kn_st (rs_A σ 12 (upd (rg_A σ 12) (rg_I σ 9).toNatClampNeg x1)) 44 (rg_I σ 9) (fun σ1 => kn_st (rs_A σ1 13 (upd (rg_A σ1 13) (rg_I σ1 9).toNatClampNeg 0)) 44 (rg_I σ1 9) (fun σ2 => kn_v (rs_I σ2 9 ((rg_I σ2 9) + 1)) (fun σ3 => some σ3)))
set_option maxRecDepth 100000 in
set_option maxHeartbeats 4000000 in
theorem p_rX12_push {p : Program} {l : Launch} {e : Env} {s : State} {m : MethodId} {args : Array Value} {below : List Frame} {meth : Method} {c : Code} {dC : Nat → ClassId} {dI : Nat → Nat → Nat} {kA : Nat → ClassId} {ad : Nat → Nat} (C : jxc cX12_push none 2 RX12 p s m args meth c dC dI kA) (hap : jw_ap 32 ad) {res : RS} : G_rX12_push p l e s m args below meth c dC dI kA ad res (s_rX12_push) := by
  obtain ⟨hx, hb, hml, hown, hts, hr, hlocks, hK, hN⟩ := id C
  intro σ x1 hf H locs ls hP hS hl
  unfold s_rX12_push at hf
  refine lv_aload_n hx hb dX12_push_0 rfl (lv_at hl 0 rfl) ?_
  refine r_gX12_pile hx hb hts hown hK hP (hts _ kw_788) dX12_push_1 ?_
  refine lv_aload_n hx hb dX12_push_4 rfl (lv_at hl 0 rfl) ?_
  refine r_gX12_top hx hb hts hown hK hP (hts _ kw_787) dX12_push_5 ?_
  refine lv_iload_n hx hb dX12_push_8 rfl (lv_at hl 1 rfl) ?_
  refine ja_ist hx hb hK (r_D hap σ) hP hS 19 0 rfl rfl r_sA12 hf dX12_push_9 (fun σ1 H locs hP hS hf => ?_)
  refine lv_aload_n hx hb dX12_push_10 rfl (lv_at hl 0 rfl) ?_
  refine r_gX12_stage hx hb hts hown hK hP (hts _ kw_789) dX12_push_11 ?_
  refine lv_aload_n hx hb dX12_push_14 rfl (lv_at hl 0 rfl) ?_
  refine r_gX12_top hx hb hts hown hK hP (hts _ kw_787) dX12_push_15 ?_
  refine lv_iconst (v := 0) hx hb dX12_push_18 (by decide) ?_
  refine ja_ist hx hb hK (r_D hap σ1) hP hS 20 0 rfl rfl r_sA13 hf dX12_push_19 (fun σ2 H locs hP hS hf => ?_)
  refine lv_aload_n hx hb dX12_push_20 rfl (lv_at hl 0 rfl) ?_
  refine lv_dup hx hb dX12_push_21 rfl ?_
  refine r_gX12_top hx hb hts hown hK hP (hts _ kw_787) dX12_push_22 ?_
  refine lv_iconst (v := 1) hx hb dX12_push_25 (by decide) ?_
  refine lv_iadd hx hb dX12_push_26 ?_
  refine r_pX12_top hx hb hts hown hK hap hP hS hf (hts _ kw_787) dX12_push_27 (fun σ3 H locs hP hS hf => ?_)
  exact jr_u hx hb hr hlocks hf hP hS dX12_push_30
theorem c_rX12_push (l : Launch) {dC : Nat → ClassId} {dI : Nat → Nat → Nat} {kA : Nat → ClassId} {ad : Nat → Nat} (hap : jw_ap 32 ad) (σ : RS) (x1 : Int32) (res : RS) (hf : s_rX12_push σ x1 = some res) : jm_u l KW NW (dC, dI) vwCl (jtys kA) (jw_A 32 ad) (r_w kA ad) yX12_push cX12_push 2 (rm_rX12_push) [.ref (ad 0), .int x1] σ res := jm_u_of (by decide) (Nat.le_of_ble_eq_true rfl) (fun p e s m below meth c C hP hS ls hl => p_rX12_push C hap σ x1 hf s.heap [] ls hP hS hl)

def rm_rX12_arcsFrom : Room := { frames := 0, cells := 0, slots := 0, locals := 0 }
def G_rX12_arcsFrom_b28 (p : Program) (l : Launch) (e : Env) (s : State) (m : MethodId) (args : Array Value) (below : List Frame) (meth : Method) (c : Code) (dC : Nat → ClassId) (dI : Nat → Nat → Nat) (kA : Nat → ClassId) (ad : Nat → Nat) (res : Int32 × RS) (F : RS → Int32 → Int32 → Int32 → Int32 → Option (Int32 × RS)) : Prop := ∀ (σ : RS) (x1 : Int32) (x3 : Int32) (s0 : Int32) (s1 : Int32), F σ x1 x3 s0 s1 = some res → ∀ (H : Heap) (locs : List Loc) (ls : Array Slot), va_P (dC, dI) vwCl (r_w kA ad σ) H → va_S (jw_A 32 ad) s.heap H locs → lv_has ls 4 [(0, .ref (ad 0)), (1, .int x1), (3, .int x3)] → W p l e rm_rX12_arcsFrom s m args below meth c H locs 0 0 (r_Qi below dC dI kA ad args s res) (F0 m 28 ls [.int s0, .int s1])
def G_rX12_arcsFrom_b4 (p : Program) (l : Launch) (e : Env) (s : State) (m : MethodId) (args : Array Value) (below : List Frame) (meth : Method) (c : Code) (dC : Nat → ClassId) (dI : Nat → Nat → Nat) (kA : Nat → ClassId) (ad : Nat → Nat) (res : Int32 × RS) (F : RS → Int32 → Int32 → Int32 → Option (Int32 × RS)) : Prop := ∀ (σ : RS) (x1 : Int32) (x2 : Int32) (x3 : Int32), F σ x1 x2 x3 = some res → ∀ (H : Heap) (locs : List Loc) (ls : Array Slot), va_P (dC, dI) vwCl (r_w kA ad σ) H → va_S (jw_A 32 ad) s.heap H locs → lv_has ls 4 [(0, .ref (ad 0)), (1, .int x1), (2, .int x2), (3, .int x3)] → W p l e rm_rX12_arcsFrom s m args below meth c H locs 0 0 (r_Qi below dC dI kA ad args s res) (F0 m 4 ls [])
def G_rX12_arcsFrom (p : Program) (l : Launch) (e : Env) (s : State) (m : MethodId) (args : Array Value) (below : List Frame) (meth : Method) (c : Code) (dC : Nat → ClassId) (dI : Nat → Nat → Nat) (kA : Nat → ClassId) (ad : Nat → Nat) (res : Int32 × RS) (F : RS → Int32 → Option (Int32 × RS)) : Prop := ∀ (σ : RS) (x1 : Int32), F σ x1 = some res → ∀ (H : Heap) (locs : List Loc) (ls : Array Slot), va_P (dC, dI) vwCl (r_w kA ad σ) H → va_S (jw_A 32 ad) s.heap H locs → lv_has ls 4 [(0, .ref (ad 0)), (1, .int x1)] → W p l e rm_rX12_arcsFrom s m args below meth c H locs 0 0 (r_Qi below dC dI kA ad args s res) (F0 m 0 ls [])
def s_rX12_arcsFrom_b28 (k4 : RS → Int32 → Int32 → Int32 → Option (Int32 × RS)) (σ : RS) (x1 : Int32) (x3 : Int32) (s0 : Int32) (s1 : Int32) : Option (Int32 × RS) := kn_v (s1 + s0) (fun v1 => kn_v (x3 + 1) (fun v2 => k4 σ x1 v1 v2))
set_option maxRecDepth 100000 in
set_option maxHeartbeats 4000000 in
theorem p_rX12_arcsFrom_b28 {p : Program} {l : Launch} {e : Env} {s : State} {m : MethodId} {args : Array Value} {below : List Frame} {meth : Method} {c : Code} {dC : Nat → ClassId} {dI : Nat → Nat → Nat} {kA : Nat → ClassId} {ad : Nat → Nat} (C : jxc cX12_arcsFrom (some .int) 4 RX12 p s m args meth c dC dI kA) (hap : jw_ap 32 ad) {res : Int32 × RS} {k4 : RS → Int32 → Int32 → Int32 → Option (Int32 × RS)} (hk4 : G_rX12_arcsFrom_b4 p l e s m args below meth c dC dI kA ad res k4) : G_rX12_arcsFrom_b28 p l e s m args below meth c dC dI kA ad res (s_rX12_arcsFrom_b28 k4) := by
  obtain ⟨hx, hb, hml, hown, hts, hr, hlocks, hK, hN⟩ := id C
  intro σ x1 x3 s0 s1 hf H locs ls hP hS hl
  unfold s_rX12_arcsFrom_b28 at hf
  refine lv_iadd hx hb dX12_arcsFrom_28 ?_
  refine jn_i hf (fun v1 hf => ?_)
  refine lv_istore_n (lv' := [(2, .int v1), (0, .ref (ad 0)), (1, .int x1), (3, .int x3)]) hx hb dX12_arcsFrom_29 rfl hl (by decide) rfl (fun ls hl => ?_)
  obtain ⟨v2, e_v2, hf⟩ := kn_v_e hf
  refine lv_iinc (v := v2) (lv' := [(3, .int v2), (2, .int v1), (0, .ref (ad 0)), (1, .int x1)]) hx hb dX12_arcsFrom_30 hl (k := 3) rfl e_v2 (by decide) rfl (fun ls hl => ?_)
  refine lv_goto (tgt := 4) hx hb dX12_arcsFrom_33 (by decide) ?_
  exact hk4 σ x1 v1 v2 hf H locs ls hP hS (lv_sub hl [2, 3, 1, 0] rfl)
def s_rX12_arcsFrom_b4 (k4 : RS → Int32 → Int32 → Int32 → Option (Int32 × RS)) (σ : RS) (x1 : Int32) (x2 : Int32) (x3 : Int32) : Option (Int32 × RS) := if (rg_I σ 2) ≤ x3 then (some (x2, σ)) else (kn_ld (rg_A σ 5) 40 x3 (fun v1 => if v1 = x1 then (s_rX12_arcsFrom_b28 k4 σ x1 x3 1 x2) else (s_rX12_arcsFrom_b28 k4 σ x1 x3 0 x2)))
set_option maxRecDepth 100000 in
set_option maxHeartbeats 4000000 in
theorem p_rX12_arcsFrom_b4 {p : Program} {l : Launch} {e : Env} {s : State} {m : MethodId} {args : Array Value} {below : List Frame} {meth : Method} {c : Code} {dC : Nat → ClassId} {dI : Nat → Nat → Nat} {kA : Nat → ClassId} {ad : Nat → Nat} (C : jxc cX12_arcsFrom (some .int) 4 RX12 p s m args meth c dC dI kA) (hap : jw_ap 32 ad) {res : Int32 × RS} {k4 : RS → Int32 → Int32 → Int32 → Option (Int32 × RS)} (hk4 : G_rX12_arcsFrom_b4 p l e s m args below meth c dC dI kA ad res k4) : G_rX12_arcsFrom_b4 p l e s m args below meth c dC dI kA ad res (s_rX12_arcsFrom_b4 k4) := by
  obtain ⟨hx, hb, hml, hown, hts, hr, hlocks, hK, hN⟩ := id C
  intro σ x1 x2 x3 hf H locs ls hP hS hl
  unfold s_rX12_arcsFrom_b4 at hf
  refine lv_iload_n hx hb dX12_arcsFrom_4 rfl (lv_at hl 3 rfl) ?_
  refine lv_aload_n hx hb dX12_arcsFrom_5 rfl (lv_at hl 0 rfl) ?_
  refine r_gX12_arcs hx hb hts hown hK hP (hts _ kw_768) dX12_arcsFrom_6 ?_
  refine jc_ge (tgt := 36) hx hb hf dX12_arcsFrom_9 (by decide) (fun hf => ?_) (fun hf => ?_)
  · refine lv_iload_n hx hb dX12_arcsFrom_36 rfl (lv_at hl 2 rfl) ?_
    exact jr_i hx hb hr hlocks hf rfl hP hS dX12_arcsFrom_37
  · refine lv_iload_n hx hb dX12_arcsFrom_12 rfl (lv_at hl 2 rfl) ?_
    refine lv_aload_n hx hb dX12_arcsFrom_13 rfl (lv_at hl 0 rfl) ?_
    refine r_gX12_from hx hb hts hown hK hP (hts _ kw_769) dX12_arcsFrom_14 ?_
    refine lv_iload_n hx hb dX12_arcsFrom_17 rfl (lv_at hl 3 rfl) ?_
    refine ja_ild hx hb hK hP 8 0 rfl rfl hf dX12_arcsFrom_18 (fun v1 hf => ?_)
    refine lv_iload_n hx hb dX12_arcsFrom_19 rfl (lv_at hl 1 rfl) ?_
    refine jc_ne (tgt := 27) hx hb hf dX12_arcsFrom_20 (by decide) (fun hf => ?_) (fun hf => ?_)
    · refine lv_iconst (v := 0) hx hb dX12_arcsFrom_27 (by decide) ?_
      exact (p_rX12_arcsFrom_b28 C hap hk4) σ x1 x3 0 x2 hf H locs ls hP hS (lv_sub hl [0, 1, 3] rfl)
    · refine lv_iconst (v := 1) hx hb dX12_arcsFrom_23 (by decide) ?_
      refine lv_goto (tgt := 28) hx hb dX12_arcsFrom_24 (by decide) ?_
      exact (p_rX12_arcsFrom_b28 C hap hk4) σ x1 x3 1 x2 hf H locs ls hP hS (lv_sub hl [0, 1, 3] rfl)
def f_rX12_arcsFrom_b4 : RS → Int32 → Int32 → Int32 → Option (Int32 × RS) := kn_fix (fun _ _ _ _ => none) (s_rX12_arcsFrom_b4) FU
theorem q_rX12_arcsFrom_b4 {p : Program} {l : Launch} {e : Env} {s : State} {m : MethodId} {args : Array Value} {below : List Frame} {meth : Method} {c : Code} {dC : Nat → ClassId} {dI : Nat → Nat → Nat} {kA : Nat → ClassId} {ad : Nat → Nat} (C : jxc cX12_arcsFrom (some .int) 4 RX12 p s m args meth c dC dI kA) (hap : jw_ap 32 ad) {res : Int32 × RS} : G_rX12_arcsFrom_b4 p l e s m args below meth c dC dI kA ad res (f_rX12_arcsFrom_b4) := kn_fix_ind (G := fun F => G_rX12_arcsFrom_b4 p l e s m args below meth c dC dI kA ad res F) (fun _ _ _ _ hf => by cases hf) (fun k4 hk4 => p_rX12_arcsFrom_b4 C hap hk4) FU
def s_rX12_arcsFrom (σ : RS) (x1 : Int32) : Option (Int32 × RS) := f_rX12_arcsFrom_b4 σ x1 0 0
set_option maxRecDepth 100000 in
set_option maxHeartbeats 4000000 in
theorem p_rX12_arcsFrom {p : Program} {l : Launch} {e : Env} {s : State} {m : MethodId} {args : Array Value} {below : List Frame} {meth : Method} {c : Code} {dC : Nat → ClassId} {dI : Nat → Nat → Nat} {kA : Nat → ClassId} {ad : Nat → Nat} (C : jxc cX12_arcsFrom (some .int) 4 RX12 p s m args meth c dC dI kA) (hap : jw_ap 32 ad) {res : Int32 × RS} : G_rX12_arcsFrom p l e s m args below meth c dC dI kA ad res (s_rX12_arcsFrom) := by
  obtain ⟨hx, hb, hml, hown, hts, hr, hlocks, hK, hN⟩ := id C
  intro σ x1 hf H locs ls hP hS hl
  unfold s_rX12_arcsFrom at hf
  refine lv_iconst (v := 0) hx hb dX12_arcsFrom_0 (by decide) ?_
  refine lv_istore_n (lv' := [(2, .int 0), (0, .ref (ad 0)), (1, .int x1)]) hx hb dX12_arcsFrom_1 rfl hl (by decide) rfl (fun ls hl => ?_)
  refine lv_iconst (v := 0) hx hb dX12_arcsFrom_2 (by decide) ?_
  refine lv_istore_n (lv' := [(3, .int 0), (2, .int 0), (0, .ref (ad 0)), (1, .int x1)]) hx hb dX12_arcsFrom_3 rfl hl (by decide) rfl (fun ls hl => ?_)
  exact (q_rX12_arcsFrom_b4 C hap) σ x1 0 0 hf H locs ls hP hS (lv_sub hl [2, 3, 1, 0] rfl)
theorem c_rX12_arcsFrom (l : Launch) {dC : Nat → ClassId} {dI : Nat → Nat → Nat} {kA : Nat → ClassId} {ad : Nat → Nat} (hap : jw_ap 32 ad) (σ : RS) (x1 : Int32) (res : Int32 × RS) (hf : s_rX12_arcsFrom σ x1 = some res) : jm_i l KW NW (dC, dI) vwCl (jtys kA) (jw_A 32 ad) (r_w kA ad) yX12_arcsFrom cX12_arcsFrom 4 .int (rm_rX12_arcsFrom) [.ref (ad 0), .int x1] σ res := jm_i_of (by decide) (Nat.le_of_ble_eq_true rfl) (fun p e s m below meth c C hP hS ls hl => p_rX12_arcsFrom C hap σ x1 hf s.heap [] ls hP hS hl)

def rm_rX12_begins : Room := { frames := 1, cells := 0, slots := 0, locals := 23 }
def G_rX12_begins_b163 (p : Program) (l : Launch) (e : Env) (s : State) (m : MethodId) (args : Array Value) (below : List Frame) (meth : Method) (c : Code) (dC : Nat → ClassId) (dI : Nat → Nat → Nat) (kA : Nat → ClassId) (ad : Nat → Nat) (res : Int32 × RS) (F : RS → Int64 → Option (Int32 × RS)) : Prop := ∀ (σ : RS) (s0 : Int64), F σ s0 = some res → ∀ (H : Heap) (locs : List Loc) (ls : Array Slot), va_P (dC, dI) vwCl (r_w kA ad σ) H → va_S (jw_A 32 ad) s.heap H locs → lv_has ls 3 [] → W p l e rm_rX12_begins s m args below meth c H locs 0 0 (r_Qi below dC dI kA ad args s res) (F0 m 163 ls [.long s0, .ref (ad 0)])
def G_rX12_begins (p : Program) (l : Launch) (e : Env) (s : State) (m : MethodId) (args : Array Value) (below : List Frame) (meth : Method) (c : Code) (dC : Nat → ClassId) (dI : Nat → Nat → Nat) (kA : Nat → ClassId) (ad : Nat → Nat) (res : Int32 × RS) (F : RS → Int32 → Option (Int32 × RS)) : Prop := ∀ (σ : RS) (x1 : Int32), F σ x1 = some res → ∀ (H : Heap) (locs : List Loc) (ls : Array Slot), va_P (dC, dI) vwCl (r_w kA ad σ) H → va_S (jw_A 32 ad) s.heap H locs → lv_has ls 3 [(0, .ref (ad 0)), (1, .int x1)] → W p l e rm_rX12_begins s m args below meth c H locs 0 0 (r_Qi below dC dI kA ad args s res) (F0 m 0 ls [])
def s_rX12_begins_b163 (σ : RS) (s0 : Int64) : Option (Int32 × RS) := kn_v (rs_L σ 1 s0) (fun σ1 => some (1, σ1))
set_option maxRecDepth 100000 in
set_option maxHeartbeats 4000000 in
theorem p_rX12_begins_b163 {p : Program} {l : Launch} {e : Env} {s : State} {m : MethodId} {args : Array Value} {below : List Frame} {meth : Method} {c : Code} {dC : Nat → ClassId} {dI : Nat → Nat → Nat} {kA : Nat → ClassId} {ad : Nat → Nat} (C : jxc cX12_begins (some .boolean) 3 RX12 p s m args meth c dC dI kA) (hap : jw_ap 32 ad) {res : Int32 × RS} : G_rX12_begins_b163 p l e s m args below meth c dC dI kA ad res (s_rX12_begins_b163) := by
  obtain ⟨hx, hb, hml, hown, hts, hr, hlocks, hK, hN⟩ := id C
  intro σ s0 hf H locs ls hP hS hl
  unfold s_rX12_begins_b163 at hf
  refine r_pX12_came hx hb hts hown hK hap hP hS hf (hts _ kw_791) dX12_begins_163 (fun σ1 H locs hP hS hf => ?_)
  refine lv_iconst (v := 1) hx hb dX12_begins_166 (by decide) ?_
  exact jr_i hx hb hr hlocks hf (by decide) hP hS dX12_begins_167
def s_rX12_begins (σ : RS) (x1 : Int32) : Option (Int32 × RS) := if (rg_I σ 11) = 3000 then (kn_v (rs_I σ 10 4) (fun σ30 => some (1, σ30))) else (kn_v (rs_I σ 11 ((rg_I σ 11) + 1)) (fun σ1 => kn_v (rs_I σ1 5 ((rg_I σ1 5) + 1)) (fun σ2 => kn_ld (rg_A σ2 12) 44 x1 (fun v3 => kn_st (rs_A σ2 13 (upd (rg_A σ2 13) x1.toNatClampNeg 1)) 44 x1 (fun σ4 => kn_ld (rg_A σ4 0) 40 v3 (fun v5 => if v5 = 0 then (kn_ld (rg_B σ4 0) 40 v3 (fun v7 => kn_v (rs_L σ4 1 v7) (fun σ8 => some (1, σ8)))) else (if v5 = 1 then (kn_ld (rg_B σ4 0) 40 v3 (fun v10 => kn_ld (rg_B σ4 1) 36 ((3 * (rg_I σ4 12)) + v10.toInt32) (fun v11 => kn_v (rs_L σ4 1 v11) (fun σ12 => some (1, σ12))))) else (if v5 = 2 then (if (rg_I σ4 13) = (-1) then (s_rX12_begins_b163 σ4 0) else (kn_ld (rg_B σ4 2) 40 (rg_I σ4 13) (fun v14 => s_rX12_begins_b163 σ4 v14))) else (if v5 = 3 then (kn_v (rs_L σ4 1 (rg_L σ4 2)) (fun σ16 => some (1, σ16))) else (if v5 = 4 then (kn_v (rs_L σ4 1 ((rg_I σ4 14).toInt64)) (fun σ18 => some (1, σ18))) else (if v5 = 5 then (kn_v (rs_L σ4 1 (((rg_I σ4 4).toInt64) + 1)) (fun σ20 => some (1, σ20))) else (if v5 = 6 then (kn_i (s_rX12_arcsFrom σ4 (rg_I σ4 12)) (fun v22 σ23 => kn_v (rs_L σ23 1 v22.toInt64) (fun σ24 => some (1, σ24)))) else (if v5 = 7 then (kn_v (rs_L σ4 1 (rg_L σ4 0)) (fun σ26 => some (1, σ26))) else (kn_ld (rg_A σ4 1) 40 v3 (fun v27 => kn_u (s_rX12_push σ4 v27) (fun σ29 => some (0, σ29)))))))))))))))))
set_option maxRecDepth 100000 in
set_option maxHeartbeats 4000000 in
theorem p_rX12_begins {p : Program} {l : Launch} {e : Env} {s : State} {m : MethodId} {args : Array Value} {below : List Frame} {meth : Method} {c : Code} {dC : Nat → ClassId} {dI : Nat → Nat → Nat} {kA : Nat → ClassId} {ad : Nat → Nat} (C : jxc cX12_begins (some .boolean) 3 RX12 p s m args meth c dC dI kA) (hap : jw_ap 32 ad) {res : Int32 × RS} : G_rX12_begins p l e s m args below meth c dC dI kA ad res (s_rX12_begins) := by
  obtain ⟨hx, hb, hml, hown, hts, hr, hlocks, hK, hN⟩ := id C
  intro σ x1 hf H locs ls hP hS hl
  unfold s_rX12_begins at hf
  refine lv_aload_n hx hb dX12_begins_0 rfl (lv_at hl 0 rfl) ?_
  refine r_gX12_spent hx hb hts hown hK hP (hts _ kw_793) dX12_begins_1 ?_
  refine lv_sipush (v := 3000) hx hb dX12_begins_4 (by decide) ?_
  refine jc_ne (tgt := 17) hx hb hf dX12_begins_7 (by decide) (fun hf => ?_) (fun hf => ?_)
  · refine lv_aload_n hx hb dX12_begins_17 rfl (lv_at hl 0 rfl) ?_
    refine lv_dup hx hb dX12_begins_18 rfl ?_
    refine r_gX12_spent hx hb hts hown hK hP (hts _ kw_793) dX12_begins_19 ?_
    refine lv_iconst (v := 1) hx hb dX12_begins_22 (by decide) ?_
    refine lv_iadd hx hb dX12_begins_23 ?_
    refine r_pX12_spent hx hb hts hown hK hap hP hS hf (hts _ kw_793) dX12_begins_24 (fun σ1 H locs hP hS hf => ?_)
    refine lv_aload_n hx hb dX12_begins_27 rfl (lv_at hl 0 rfl) ?_
    refine lv_dup hx hb dX12_begins_28 rfl ?_
    refine r_gX12_steps hx hb hts hown hK hP (hts _ kw_776) dX12_begins_29 ?_
    refine lv_iconst (v := 1) hx hb dX12_begins_32 (by decide) ?_
    refine lv_iadd hx hb dX12_begins_33 ?_
    refine r_pX12_steps hx hb hts hown hK hap hP hS hf (hts _ kw_776) dX12_begins_34 (fun σ2 H locs hP hS hf => ?_)
    refine lv_aload_n hx hb dX12_begins_37 rfl (lv_at hl 0 rfl) ?_
    refine r_gX12_pile hx hb hts hown hK hP (hts _ kw_788) dX12_begins_38 ?_
    refine lv_iload_n hx hb dX12_begins_41 rfl (lv_at hl 1 rfl) ?_
    refine ja_ild hx hb hK hP 19 0 rfl rfl hf dX12_begins_42 (fun v3 hf => ?_)
    refine lv_istore_n (lv' := [(2, .int v3), (0, .ref (ad 0)), (1, .int x1)]) hx hb dX12_begins_43 rfl hl (by decide) rfl (fun ls hl => ?_)
    refine lv_aload_n hx hb dX12_begins_44 rfl (lv_at hl 1 rfl) ?_
    refine r_gX12_stage hx hb hts hown hK hP (hts _ kw_789) dX12_begins_45 ?_
    refine lv_iload_n hx hb dX12_begins_48 rfl (lv_at hl 2 rfl) ?_
    refine lv_iconst (v := 1) hx hb dX12_begins_49 (by decide) ?_
    refine ja_ist hx hb hK (r_D hap σ2) hP hS 20 0 rfl rfl r_sA13 hf dX12_begins_50 (fun σ4 H locs hP hS hf => ?_)
    refine lv_aload_n hx hb dX12_begins_51 rfl (lv_at hl 1 rfl) ?_
    refine r_gX12_kinds hx hb hts hown hK hP (hts _ kw_760) dX12_begins_52 ?_
    refine lv_iload_n hx hb dX12_begins_55 rfl (lv_at hl 0 rfl) ?_
    refine ja_ild hx hb hK hP 1 0 rfl rfl hf dX12_begins_56 (fun v5 hf => ?_)
    by_cases c6 : v5 = 0
    · have hf := kn_t hf c6
      refine lv_tableIn (tgt := 104) hx hb dX12_begins_57 (by rw [c6]; decide) (by rw [c6]; decide) (by rw [c6]; rfl) (by decide) ?_
      refine lv_aload_n hx hb dX12_begins_104 rfl (lv_at hl 1 rfl) ?_
      refine lv_aload_n hx hb dX12_begins_105 rfl (lv_at hl 1 rfl) ?_
      refine r_gX12_numbers hx hb hts hown hK hP (hts _ kw_764) dX12_begins_106 ?_
      refine lv_iload_n hx hb dX12_begins_109 rfl (lv_at hl 0 rfl) ?_
      refine ja_lld hx hb hK hP 5 1 rfl rfl hf dX12_begins_110 (fun v7 hf => ?_)
      refine r_pX12_came hx hb hts hown hK hap hP hS hf (hts _ kw_791) dX12_begins_111 (fun σ8 H locs hP hS hf => ?_)
      refine lv_iconst (v := 1) hx hb dX12_begins_114 (by decide) ?_
      exact jr_i hx hb hr hlocks hf (by decide) hP hS dX12_begins_115
    · have hf := kn_f hf c6
      by_cases c9 : v5 = 1
      · have hf := kn_t hf c9
        refine lv_tableIn (tgt := 116) hx hb dX12_begins_57 (by rw [c9]; decide) (by rw [c9]; decide) (by rw [c9]; rfl) (by decide) ?_
        refine lv_aload_n hx hb dX12_begins_116 rfl (lv_at hl 1 rfl) ?_
        refine lv_aload_n hx hb dX12_begins_117 rfl (lv_at hl 1 rfl) ?_
        refine r_gX12_states hx hb hts hown hK hP (hts _ kw_766) dX12_begins_118 ?_
        refine lv_iconst (v := 3) hx hb dX12_begins_121 (by decide) ?_
        refine lv_aload_n hx hb dX12_begins_122 rfl (lv_at hl 1 rfl) ?_
        refine r_gX12_atNode hx hb hts hown hK hP (hts _ kw_794) dX12_begins_123 ?_
        refine lv_imul hx hb dX12_begins_126 ?_
        refine lv_aload_n hx hb dX12_begins_127 rfl (lv_at hl 1 rfl) ?_
        refine r_gX12_numbers hx hb hts hown hK hP (hts _ kw_764) dX12_begins_128 ?_
        refine lv_iload_n hx hb dX12_begins_131 rfl (lv_at hl 0 rfl) ?_
        refine ja_lld hx hb hK hP 5 1 rfl rfl hf dX12_begins_132 (fun v10 hf => ?_)
        refine lv_l2i (v := v10.toInt32) hx hb dX12_begins_133 rfl ?_
        refine lv_iadd hx hb dX12_begins_134 ?_
        refine ja_lld hx hb hK hP 6 1 rfl rfl hf dX12_begins_135 (fun v11 hf => ?_)
        refine r_pX12_came hx hb hts hown hK hap hP hS hf (hts _ kw_791) dX12_begins_136 (fun σ12 H locs hP hS hf => ?_)
        refine lv_iconst (v := 1) hx hb dX12_begins_139 (by decide) ?_
        exact jr_i hx hb hr hlocks hf (by decide) hP hS dX12_begins_140
      · have hf := kn_f hf c9
        by_cases c13 : v5 = 2
        · have hf := kn_t hf c13
          refine lv_tableIn (tgt := 141) hx hb dX12_begins_57 (by rw [c13]; decide) (by rw [c13]; decide) (by rw [c13]; rfl) (by decide) ?_
          refine lv_aload_n hx hb dX12_begins_141 rfl (lv_at hl 1 rfl) ?_
          refine lv_aload_n hx hb dX12_begins_142 rfl (lv_at hl 1 rfl) ?_
          refine r_gX12_atArc hx hb hts hown hK hP (hts _ kw_795) dX12_begins_143 ?_
          refine lv_iconst (v := (-1)) hx hb dX12_begins_146 (by decide) ?_
          refine jc_ne (tgt := 154) hx hb hf dX12_begins_147 (by decide) (fun hf => ?_) (fun hf => ?_)
          · refine lv_aload_n hx hb dX12_begins_154 rfl (lv_at hl 1 rfl) ?_
            refine r_gX12_weights hx hb hts hown hK hP (hts _ kw_771) dX12_begins_155 ?_
            refine lv_aload_n hx hb dX12_begins_158 rfl (lv_at hl 1 rfl) ?_
            refine r_gX12_atArc hx hb hts hown hK hP (hts _ kw_795) dX12_begins_159 ?_
            refine ja_lld hx hb hK hP 10 1 rfl rfl hf dX12_begins_162 (fun v14 hf => ?_)
            exact (p_rX12_begins_b163 C hap) σ4 v14 hf H locs ls hP hS (lv_sub hl [] rfl)
          · refine lv_lconst (v := 0) hx hb dX12_begins_150 (by decide) ?_
            refine lv_goto (tgt := 163) hx hb dX12_begins_151 (by decide) ?_
            exact (p_rX12_begins_b163 C hap) σ4 0 hf H locs ls hP hS (lv_sub hl [] rfl)
        · have hf := kn_f hf c13
          by_cases c15 : v5 = 3
          · have hf := kn_t hf c15
            refine lv_tableIn (tgt := 168) hx hb dX12_begins_57 (by rw [c15]; decide) (by rw [c15]; decide) (by rw [c15]; rfl) (by decide) ?_
            refine lv_aload_n hx hb dX12_begins_168 rfl (lv_at hl 1 rfl) ?_
            refine lv_aload_n hx hb dX12_begins_169 rfl (lv_at hl 1 rfl) ?_
            refine r_gX12_folded hx hb hts hown hK hP (hts _ kw_796) dX12_begins_170 ?_
            refine r_pX12_came hx hb hts hown hK hap hP hS hf (hts _ kw_791) dX12_begins_173 (fun σ16 H locs hP hS hf => ?_)
            refine lv_iconst (v := 1) hx hb dX12_begins_176 (by decide) ?_
            exact jr_i hx hb hr hlocks hf (by decide) hP hS dX12_begins_177
          · have hf := kn_f hf c15
            by_cases c17 : v5 = 4
            · have hf := kn_t hf c17
              refine lv_tableIn (tgt := 178) hx hb dX12_begins_57 (by rw [c17]; decide) (by rw [c17]; decide) (by rw [c17]; rfl) (by decide) ?_
              refine lv_aload_n hx hb dX12_begins_178 rfl (lv_at hl 1 rfl) ?_
              refine lv_aload_n hx hb dX12_begins_179 rfl (lv_at hl 1 rfl) ?_
              refine r_gX12_many hx hb hts hown hK hP (hts _ kw_797) dX12_begins_180 ?_
              refine lv_i2l (v := (rg_I σ4 14).toInt64) hx hb dX12_begins_183 rfl ?_
              refine r_pX12_came hx hb hts hown hK hap hP hS hf (hts _ kw_791) dX12_begins_184 (fun σ18 H locs hP hS hf => ?_)
              refine lv_iconst (v := 1) hx hb dX12_begins_187 (by decide) ?_
              exact jr_i hx hb hr hlocks hf (by decide) hP hS dX12_begins_188
            · have hf := kn_f hf c17
              by_cases c19 : v5 = 5
              · have hf := kn_t hf c19
                refine lv_tableIn (tgt := 189) hx hb dX12_begins_57 (by rw [c19]; decide) (by rw [c19]; decide) (by rw [c19]; rfl) (by decide) ?_
                refine lv_aload_n hx hb dX12_begins_189 rfl (lv_at hl 1 rfl) ?_
                refine lv_aload_n hx hb dX12_begins_190 rfl (lv_at hl 1 rfl) ?_
                refine r_gX12_rounds hx hb hts hown hK hP (hts _ kw_775) dX12_begins_191 ?_
                refine lv_i2l (v := (rg_I σ4 4).toInt64) hx hb dX12_begins_194 rfl ?_
                refine lv_lconst (v := 1) hx hb dX12_begins_195 (by decide) ?_
                refine lv_ladd hx hb dX12_begins_196 ?_
                refine r_pX12_came hx hb hts hown hK hap hP hS hf (hts _ kw_791) dX12_begins_197 (fun σ20 H locs hP hS hf => ?_)
                refine lv_iconst (v := 1) hx hb dX12_begins_200 (by decide) ?_
                exact jr_i hx hb hr hlocks hf (by decide) hP hS dX12_begins_201
              · have hf := kn_f hf c19
                by_cases c21 : v5 = 6
                · have hf := kn_t hf c21
                  refine lv_tableIn (tgt := 202) hx hb dX12_begins_57 (by rw [c21]; decide) (by rw [c21]; decide) (by rw [c21]; rfl) (by decide) ?_
                  refine lv_aload_n hx hb dX12_begins_202 rfl (lv_at hl 1 rfl) ?_
                  refine lv_aload_n hx hb dX12_begins_203 rfl (lv_at hl 1 rfl) ?_
                  refine lv_aload_n hx hb dX12_begins_204 rfl (lv_at hl 1 rfl) ?_
                  refine r_gX12_atNode hx hb hts hown hK hP (hts _ kw_794) dX12_begins_205 ?_
                  refine jk_i hf (fun res hres => jv_run hx hb hml hown hts hK hN r_hG r_hNW hl.1 (n := 1) (As := [.int (rg_I σ4 12)]) (rest := [.ref (ad 0)]) (c_rX12_arcsFrom l hap σ4 (rg_I σ4 12) res hres) hP (ci := 12) (q0 := 0) rfl rfl rfl kw_1002 kw_999 kw_1001 kw_35 kw_64 ⟨rfl, rfl⟩ (by decide +kernel) rfl ⟨Nat.le_of_ble_eq_true rfl, Nat.le_of_ble_eq_true rfl⟩ rfl (Nat.le_of_ble_eq_true rfl) dX12_begins_208) hS (fun v22 σ23 H locs hP hS hf => ?_)
                  refine lv_i2l (v := v22.toInt64) hx hb dX12_begins_211 rfl ?_
                  refine r_pX12_came hx hb hts hown hK hap hP hS hf (hts _ kw_791) dX12_begins_212 (fun σ24 H locs hP hS hf => ?_)
                  refine lv_iconst (v := 1) hx hb dX12_begins_215 (by decide) ?_
                  exact jr_i hx hb hr hlocks hf (by decide) hP hS dX12_begins_216
                · have hf := kn_f hf c21
                  by_cases c25 : v5 = 7
                  · have hf := kn_t hf c25
                    refine lv_tableIn (tgt := 217) hx hb dX12_begins_57 (by rw [c25]; decide) (by rw [c25]; decide) (by rw [c25]; rfl) (by decide) ?_
                    refine lv_aload_n hx hb dX12_begins_217 rfl (lv_at hl 1 rfl) ?_
                    refine lv_aload_n hx hb dX12_begins_218 rfl (lv_at hl 1 rfl) ?_
                    refine r_gX12_whole hx hb hts hown hK hP (hts _ kw_774) dX12_begins_219 ?_
                    refine r_pX12_came hx hb hts hown hK hap hP hS hf (hts _ kw_791) dX12_begins_222 (fun σ26 H locs hP hS hf => ?_)
                    refine lv_iconst (v := 1) hx hb dX12_begins_225 (by decide) ?_
                    exact jr_i hx hb hr hlocks hf (by decide) hP hS dX12_begins_226
                  · have hf := kn_f hf c25
                    refine lv_tableOut (tgt := 227) hx hb dX12_begins_57 (by have t0 := lv_neT c6 (a := 0) (by decide); have t1 := lv_neT c9 (a := 1) (by decide); have t2 := lv_neT c13 (a := 2) (by decide); have t3 := lv_neT c15 (a := 3) (by decide); have t4 := lv_neT c17 (a := 4) (by decide); have t5 := lv_neT c19 (a := 5) (by decide); have t6 := lv_neT c21 (a := 6) (by decide); have t7 := lv_neT c25 (a := 7) (by decide); omega) (by decide) ?_
                    refine lv_aload_n hx hb dX12_begins_227 rfl (lv_at hl 1 rfl) ?_
                    refine lv_aload_n hx hb dX12_begins_228 rfl (lv_at hl 1 rfl) ?_
                    refine r_gX12_partA hx hb hts hown hK hP (hts _ kw_761) dX12_begins_229 ?_
                    refine lv_iload_n hx hb dX12_begins_232 rfl (lv_at hl 0 rfl) ?_
                    refine ja_ild hx hb hK hP 2 0 rfl rfl hf dX12_begins_233 (fun v27 hf => ?_)
                    refine jk_u hf (fun res hres => jv_run hx hb hml hown hts hK hN r_hG r_hNW hl.1 (n := 1) (As := [.int v27]) (rest := []) (c_rX12_push l hap σ4 v27 res hres) hP (ci := 12) (q0 := 0) rfl rfl rfl kw_994 kw_991 kw_993 kw_33 kw_64 ⟨rfl, rfl⟩ (by decide +kernel) rfl ⟨Nat.le_of_ble_eq_true rfl, Nat.le_of_ble_eq_true rfl⟩ rfl (Nat.le_of_ble_eq_true rfl) dX12_begins_234) hS (fun σ29 H locs hP hS hf => ?_)
                    refine lv_iconst (v := 0) hx hb dX12_begins_237 (by decide) ?_
                    exact jr_i hx hb hr hlocks hf (by decide) hP hS dX12_begins_238
  · refine lv_aload_n hx hb dX12_begins_10 rfl (lv_at hl 0 rfl) ?_
    refine lv_iconst (v := 4) hx hb dX12_begins_11 (by decide) ?_
    refine r_pX12_fails hx hb hts hown hK hap hP hS hf (hts _ kw_792) dX12_begins_12 (fun σ30 H locs hP hS hf => ?_)
    refine lv_iconst (v := 1) hx hb dX12_begins_15 (by decide) ?_
    exact jr_i hx hb hr hlocks hf (by decide) hP hS dX12_begins_16
theorem c_rX12_begins (l : Launch) {dC : Nat → ClassId} {dI : Nat → Nat → Nat} {kA : Nat → ClassId} {ad : Nat → Nat} (hap : jw_ap 32 ad) (σ : RS) (x1 : Int32) (res : Int32 × RS) (hf : s_rX12_begins σ x1 = some res) : jm_i l KW NW (dC, dI) vwCl (jtys kA) (jw_A 32 ad) (r_w kA ad) yX12_begins cX12_begins 3 .boolean (rm_rX12_begins) [.ref (ad 0), .int x1] σ res := jm_i_of (by decide) (Nat.le_of_ble_eq_true rfl) (fun p e s m below meth c C hP hS ls hl => p_rX12_begins C hap σ x1 hf s.heap [] ls hP hS hl)

def rm_rX12_joined : Room := { frames := 0, cells := 0, slots := 0, locals := 0 }
def G_rX12_joined_b72 (p : Program) (l : Launch) (e : Env) (s : State) (m : MethodId) (args : Array Value) (below : List Frame) (meth : Method) (c : Code) (dC : Nat → ClassId) (dI : Nat → Nat → Nat) (kA : Nat → ClassId) (ad : Nat → Nat) (res : Int64 × RS) (F : RS → Int32 → Int64 → Int64 → Int32 → Option (Int64 × RS)) : Prop := ∀ (σ : RS) (x1 : Int32) (x2 : Int64) (x4 : Int64) (s0 : Int32), F σ x1 x2 x4 s0 = some res → ∀ (H : Heap) (locs : List Loc) (ls : Array Slot), va_P (dC, dI) vwCl (r_w kA ad σ) H → va_S (jw_A 32 ad) s.heap H locs → lv_has ls 6 [(1, .int x1), (2, .long x2), (4, .long x4)] → W p l e rm_rX12_joined s m args below meth c H locs 0 0 (r_Ql below dC dI kA ad args s res) (F0 m 72 ls [.int s0, .ref (ad 0)])
def G_rX12_joined_b59 (p : Program) (l : Launch) (e : Env) (s : State) (m : MethodId) (args : Array Value) (below : List Frame) (meth : Method) (c : Code) (dC : Nat → ClassId) (dI : Nat → Nat → Nat) (kA : Nat → ClassId) (ad : Nat → Nat) (res : Int64 × RS) (F : RS → Int32 → Int64 → Int64 → Option (Int64 × RS)) : Prop := ∀ (σ : RS) (x1 : Int32) (x2 : Int64) (x4 : Int64), F σ x1 x2 x4 = some res → ∀ (H : Heap) (locs : List Loc) (ls : Array Slot), va_P (dC, dI) vwCl (r_w kA ad σ) H → va_S (jw_A 32 ad) s.heap H locs → lv_has ls 6 [(0, .ref (ad 0)), (1, .int x1), (2, .long x2), (4, .long x4)] → W p l e rm_rX12_joined s m args below meth c H locs 0 0 (r_Ql below dC dI kA ad args s res) (F0 m 59 ls [])
def G_rX12_joined (p : Program) (l : Launch) (e : Env) (s : State) (m : MethodId) (args : Array Value) (below : List Frame) (meth : Method) (c : Code) (dC : Nat → ClassId) (dI : Nat → Nat → Nat) (kA : Nat → ClassId) (ad : Nat → Nat) (res : Int64 × RS) (F : RS → Int32 → Int64 → Int64 → Option (Int64 × RS)) : Prop := ∀ (σ : RS) (x1 : Int32) (x2 : Int64) (x4 : Int64), F σ x1 x2 x4 = some res → ∀ (H : Heap) (locs : List Loc) (ls : Array Slot), va_P (dC, dI) vwCl (r_w kA ad σ) H → va_S (jw_A 32 ad) s.heap H locs → lv_has ls 6 [(0, .ref (ad 0)), (1, .int x1), (2, .long x2), (4, .long x4)] → W p l e rm_rX12_joined s m args below meth c H locs 0 0 (r_Ql below dC dI kA ad args s res) (F0 m 0 ls [])
def s_rX12_joined_b72 (σ : RS) (x1 : Int32) (x2 : Int64) (x4 : Int64) (s0 : Int32) : Option (Int64 × RS) := kn_v (rs_I σ 10 s0) (fun σ1 => if x4 = 0 then (some (0, σ1)) else (if x1 = 11 then (kn_nz64 x4 (some (x2 / x4, σ1))) else (kn_nz64 x4 (some (x2 - x2 / x4 * x4, σ1)))))
set_option maxRecDepth 100000 in
set_option maxHeartbeats 4000000 in
theorem p_rX12_joined_b72 {p : Program} {l : Launch} {e : Env} {s : State} {m : MethodId} {args : Array Value} {below : List Frame} {meth : Method} {c : Code} {dC : Nat → ClassId} {dI : Nat → Nat → Nat} {kA : Nat → ClassId} {ad : Nat → Nat} (C : jxc cX12_joined (some .long) 6 RX12 p s m args meth c dC dI kA) (hap : jw_ap 32 ad) {res : Int64 × RS} : G_rX12_joined_b72 p l e s m args below meth c dC dI kA ad res (s_rX12_joined_b72) := by
  obtain ⟨hx, hb, hml, hown, hts, hr, hlocks, hK, hN⟩ := id C
  intro σ x1 x2 x4 s0 hf H locs ls hP hS hl
  unfold s_rX12_joined_b72 at hf
  refine r_pX12_fails hx hb hts hown hK hap hP hS hf (hts _ kw_792) dX12_joined_72 (fun σ1 H locs hP hS hf => ?_)
  refine lv_lload hx hb dX12_joined_75 (lv_at hl 2 rfl) ?_
  refine lv_lconst (v := 0) hx hb dX12_joined_77 (by decide) ?_
  refine jl_ne (tgt := 86) hx hb hf dX12_joined_78 dX12_joined_79 (by decide) (fun hf => ?_) (fun hf => ?_)
  · refine lv_iload_n hx hb dX12_joined_86 rfl (lv_at hl 0 rfl) ?_
    refine lv_bipush (v := 11) hx hb dX12_joined_87 (by decide) ?_
    refine jc_ne (tgt := 99) hx hb hf dX12_joined_89 (by decide) (fun hf => ?_) (fun hf => ?_)
    · refine lv_lload_n hx hb dX12_joined_99 rfl (lv_at hl 1 rfl) ?_
      refine lv_lload hx hb dX12_joined_100 (lv_at hl 2 rfl) ?_
      refine jd_lrem hx hb hf dX12_joined_102 (fun hf => ?_)
      exact jr_l hx hb hr hlocks hf hP hS dX12_joined_103
    · refine lv_lload_n hx hb dX12_joined_92 rfl (lv_at hl 1 rfl) ?_
      refine lv_lload hx hb dX12_joined_93 (lv_at hl 2 rfl) ?_
      refine jd_ldiv hx hb hf dX12_joined_95 (fun hf => ?_)
      refine lv_goto (tgt := 103) hx hb dX12_joined_96 (by decide) ?_
      exact jr_l hx hb hr hlocks hf hP hS dX12_joined_103
  · refine lv_lconst (v := 0) hx hb dX12_joined_82 (by decide) ?_
    refine lv_goto (tgt := 103) hx hb dX12_joined_83 (by decide) ?_
    exact jr_l hx hb hr hlocks hf hP hS dX12_joined_103
def s_rX12_joined_b59 (σ : RS) (x1 : Int32) (x2 : Int64) (x4 : Int64) : Option (Int64 × RS) := if x4 = 0 then (s_rX12_joined_b72 σ x1 x2 x4 1) else (s_rX12_joined_b72 σ x1 x2 x4 0)
set_option maxRecDepth 100000 in
set_option maxHeartbeats 4000000 in
theorem p_rX12_joined_b59 {p : Program} {l : Launch} {e : Env} {s : State} {m : MethodId} {args : Array Value} {below : List Frame} {meth : Method} {c : Code} {dC : Nat → ClassId} {dI : Nat → Nat → Nat} {kA : Nat → ClassId} {ad : Nat → Nat} (C : jxc cX12_joined (some .long) 6 RX12 p s m args meth c dC dI kA) (hap : jw_ap 32 ad) {res : Int64 × RS} : G_rX12_joined_b59 p l e s m args below meth c dC dI kA ad res (s_rX12_joined_b59) := by
  obtain ⟨hx, hb, hml, hown, hts, hr, hlocks, hK, hN⟩ := id C
  intro σ x1 x2 x4 hf H locs ls hP hS hl
  unfold s_rX12_joined_b59 at hf
  refine lv_aload_n hx hb dX12_joined_59 rfl (lv_at hl 0 rfl) ?_
  refine lv_lload hx hb dX12_joined_60 (lv_at hl 3 rfl) ?_
  refine lv_lconst (v := 0) hx hb dX12_joined_62 (by decide) ?_
  refine jl_ne (tgt := 71) hx hb hf dX12_joined_63 dX12_joined_64 (by decide) (fun hf => ?_) (fun hf => ?_)
  · refine lv_iconst (v := 0) hx hb dX12_joined_71 (by decide) ?_
    exact (p_rX12_joined_b72 C hap) σ x1 x2 x4 0 hf H locs ls hP hS (lv_sub hl [1, 2, 3] rfl)
  · refine lv_iconst (v := 1) hx hb dX12_joined_67 (by decide) ?_
    refine lv_goto (tgt := 72) hx hb dX12_joined_68 (by decide) ?_
    exact (p_rX12_joined_b72 C hap) σ x1 x2 x4 1 hf H locs ls hP hS (lv_sub hl [1, 2, 3] rfl)
def s_rX12_joined (σ : RS) (x1 : Int32) (x2 : Int64) (x4 : Int64) : Option (Int64 × RS) := if x1 = 8 then (some (x2 + x4, σ)) else (if x1 = 9 then (some (x2 - x4, σ)) else (if x1 = 10 then (some (x2 * x4, σ)) else (if x1 = 11 then (s_rX12_joined_b59 σ x1 x2 x4) else (if x1 = 12 then (s_rX12_joined_b59 σ x1 x2 x4) else (if x1 = 13 then (if x4 ≤ x2 then (some (x4, σ)) else (some (x2, σ))) else (if x1 = 14 then (if x2 ≤ x4 then (some (x4, σ)) else (some (x2, σ))) else (if x4 ≤ x2 then (some (0, σ)) else (some (1, σ)))))))))
set_option maxRecDepth 100000 in
set_option maxHeartbeats 4000000 in
theorem p_rX12_joined {p : Program} {l : Launch} {e : Env} {s : State} {m : MethodId} {args : Array Value} {below : List Frame} {meth : Method} {c : Code} {dC : Nat → ClassId} {dI : Nat → Nat → Nat} {kA : Nat → ClassId} {ad : Nat → Nat} (C : jxc cX12_joined (some .long) 6 RX12 p s m args meth c dC dI kA) (hap : jw_ap 32 ad) {res : Int64 × RS} : G_rX12_joined p l e s m args below meth c dC dI kA ad res (s_rX12_joined) := by
  obtain ⟨hx, hb, hml, hown, hts, hr, hlocks, hK, hN⟩ := id C
  intro σ x1 x2 x4 hf H locs ls hP hS hl
  unfold s_rX12_joined at hf
  refine lv_iload_n hx hb dX12_joined_0 rfl (lv_at hl 1 rfl) ?_
  by_cases c1 : x1 = 8
  · have hf := kn_t hf c1
    refine lv_tableIn (tgt := 44) hx hb dX12_joined_1 (by rw [c1]; decide) (by rw [c1]; decide) (by rw [c1]; rfl) (by decide) ?_
    refine lv_lload_n hx hb dX12_joined_44 rfl (lv_at hl 2 rfl) ?_
    refine lv_lload hx hb dX12_joined_45 (lv_at hl 3 rfl) ?_
    refine lv_ladd hx hb dX12_joined_47 ?_
    exact jr_l hx hb hr hlocks hf hP hS dX12_joined_48
  · have hf := kn_f hf c1
    by_cases c2 : x1 = 9
    · have hf := kn_t hf c2
      refine lv_tableIn (tgt := 49) hx hb dX12_joined_1 (by rw [c2]; decide) (by rw [c2]; decide) (by rw [c2]; rfl) (by decide) ?_
      refine lv_lload_n hx hb dX12_joined_49 rfl (lv_at hl 2 rfl) ?_
      refine lv_lload hx hb dX12_joined_50 (lv_at hl 3 rfl) ?_
      refine lv_lsub hx hb dX12_joined_52 ?_
      exact jr_l hx hb hr hlocks hf hP hS dX12_joined_53
    · have hf := kn_f hf c2
      by_cases c3 : x1 = 10
      · have hf := kn_t hf c3
        refine lv_tableIn (tgt := 54) hx hb dX12_joined_1 (by rw [c3]; decide) (by rw [c3]; decide) (by rw [c3]; rfl) (by decide) ?_
        refine lv_lload_n hx hb dX12_joined_54 rfl (lv_at hl 2 rfl) ?_
        refine lv_lload hx hb dX12_joined_55 (lv_at hl 3 rfl) ?_
        refine lv_lmul hx hb dX12_joined_57 ?_
        exact jr_l hx hb hr hlocks hf hP hS dX12_joined_58
      · have hf := kn_f hf c3
        by_cases c4 : x1 = 11
        · have hf := kn_t hf c4
          refine lv_tableIn (tgt := 59) hx hb dX12_joined_1 (by rw [c4]; decide) (by rw [c4]; decide) (by rw [c4]; rfl) (by decide) ?_
          exact (p_rX12_joined_b59 C hap) σ x1 x2 x4 hf H locs ls hP hS (lv_sub hl [0, 1, 2, 3] rfl)
        · have hf := kn_f hf c4
          by_cases c5 : x1 = 12
          · have hf := kn_t hf c5
            refine lv_tableIn (tgt := 59) hx hb dX12_joined_1 (by rw [c5]; decide) (by rw [c5]; decide) (by rw [c5]; rfl) (by decide) ?_
            exact (p_rX12_joined_b59 C hap) σ x1 x2 x4 hf H locs ls hP hS (lv_sub hl [0, 1, 2, 3] rfl)
          · have hf := kn_f hf c5
            by_cases c6 : x1 = 13
            · have hf := kn_t hf c6
              refine lv_tableIn (tgt := 104) hx hb dX12_joined_1 (by rw [c6]; decide) (by rw [c6]; decide) (by rw [c6]; rfl) (by decide) ?_
              refine lv_lload_n hx hb dX12_joined_104 rfl (lv_at hl 2 rfl) ?_
              refine lv_lload hx hb dX12_joined_105 (lv_at hl 3 rfl) ?_
              refine jl_ge (tgt := 115) hx hb hf dX12_joined_107 dX12_joined_108 (by decide) (fun hf => ?_) (fun hf => ?_)
              · refine lv_lload hx hb dX12_joined_115 (lv_at hl 3 rfl) ?_
                exact jr_l hx hb hr hlocks hf hP hS dX12_joined_117
              · refine lv_lload_n hx hb dX12_joined_111 rfl (lv_at hl 2 rfl) ?_
                refine lv_goto (tgt := 117) hx hb dX12_joined_112 (by decide) ?_
                exact jr_l hx hb hr hlocks hf hP hS dX12_joined_117
            · have hf := kn_f hf c6
              by_cases c7 : x1 = 14
              · have hf := kn_t hf c7
                refine lv_tableIn (tgt := 118) hx hb dX12_joined_1 (by rw [c7]; decide) (by rw [c7]; decide) (by rw [c7]; rfl) (by decide) ?_
                refine lv_lload_n hx hb dX12_joined_118 rfl (lv_at hl 2 rfl) ?_
                refine lv_lload hx hb dX12_joined_119 (lv_at hl 3 rfl) ?_
                refine jl_le (tgt := 129) hx hb hf dX12_joined_121 dX12_joined_122 (by decide) (fun hf => ?_) (fun hf => ?_)
                · refine lv_lload hx hb dX12_joined_129 (lv_at hl 3 rfl) ?_
                  exact jr_l hx hb hr hlocks hf hP hS dX12_joined_131
                · refine lv_lload_n hx hb dX12_joined_125 rfl (lv_at hl 2 rfl) ?_
                  refine lv_goto (tgt := 131) hx hb dX12_joined_126 (by decide) ?_
                  exact jr_l hx hb hr hlocks hf hP hS dX12_joined_131
              · have hf := kn_f hf c7
                refine lv_tableOut (tgt := 132) hx hb dX12_joined_1 (by have t0 := lv_neT c1 (a := 8) (by decide); have t1 := lv_neT c2 (a := 9) (by decide); have t2 := lv_neT c3 (a := 10) (by decide); have t3 := lv_neT c4 (a := 11) (by decide); have t4 := lv_neT c5 (a := 12) (by decide); have t5 := lv_neT c6 (a := 13) (by decide); have t6 := lv_neT c7 (a := 14) (by decide); omega) (by decide) ?_
                refine lv_lload_n hx hb dX12_joined_132 rfl (lv_at hl 2 rfl) ?_
                refine lv_lload hx hb dX12_joined_133 (lv_at hl 3 rfl) ?_
                refine jl_ge (tgt := 143) hx hb hf dX12_joined_135 dX12_joined_136 (by decide) (fun hf => ?_) (fun hf => ?_)
                · refine lv_lconst (v := 0) hx hb dX12_joined_143 (by decide) ?_
                  exact jr_l hx hb hr hlocks hf hP hS dX12_joined_144
                · refine lv_lconst (v := 1) hx hb dX12_joined_139 (by decide) ?_
                  refine lv_goto (tgt := 144) hx hb dX12_joined_140 (by decide) ?_
                  exact jr_l hx hb hr hlocks hf hP hS dX12_joined_144
theorem c_rX12_joined (l : Launch) {dC : Nat → ClassId} {dI : Nat → Nat → Nat} {kA : Nat → ClassId} {ad : Nat → Nat} (hap : jw_ap 32 ad) (σ : RS) (x1 : Int32) (x2 : Int64) (x4 : Int64) (res : Int64 × RS) (hf : s_rX12_joined σ x1 x2 x4 = some res) : jm_l l KW NW (dC, dI) vwCl (jtys kA) (jw_A 32 ad) (r_w kA ad) yX12_joined cX12_joined 6 (rm_rX12_joined) [.ref (ad 0), .int x1, .long x2, .long x4] σ res := jm_l_of (by decide) (Nat.le_of_ble_eq_true rfl) (fun p e s m below meth c C hP hS ls hl => p_rX12_joined C hap σ x1 x2 x4 hf s.heap [] ls hP hS hl)

def rm_rX12_clearFailed : Room := { frames := 0, cells := 0, slots := 0, locals := 0 }
def G_rX12_clearFailed_b9 (p : Program) (l : Launch) (e : Env) (s : State) (m : MethodId) (args : Array Value) (below : List Frame) (meth : Method) (c : Code) (dC : Nat → ClassId) (dI : Nat → Nat → Nat) (kA : Nat → ClassId) (ad : Nat → Nat) (res : RS) (F : RS → Int32 → Option (RS)) : Prop := ∀ (σ : RS) (x1 : Int32), F σ x1 = some res → ∀ (H : Heap) (locs : List Loc) (ls : Array Slot), va_P (dC, dI) vwCl (r_w kA ad σ) H → va_S (jw_A 32 ad) s.heap H locs → lv_has ls 2 [(0, .ref (ad 0)), (1, .int x1)] → W p l e rm_rX12_clearFailed s m args below meth c H locs 0 0 (r_Qu below dC dI kA ad args s res) (F0 m 9 ls [])
def G_rX12_clearFailed (p : Program) (l : Launch) (e : Env) (s : State) (m : MethodId) (args : Array Value) (below : List Frame) (meth : Method) (c : Code) (dC : Nat → ClassId) (dI : Nat → Nat → Nat) (kA : Nat → ClassId) (ad : Nat → Nat) (res : RS) (F : RS → Option (RS)) : Prop := ∀ (σ : RS), F σ = some res → ∀ (H : Heap) (locs : List Loc) (ls : Array Slot), va_P (dC, dI) vwCl (r_w kA ad σ) H → va_S (jw_A 32 ad) s.heap H locs → lv_has ls 2 [(0, .ref (ad 0))] → W p l e rm_rX12_clearFailed s m args below meth c H locs 0 0 (r_Qu below dC dI kA ad args s res) (F0 m 0 ls [])
def s_rX12_clearFailed_b9 (k9 : RS → Int32 → Option (RS)) (σ : RS) (x1 : Int32) : Option (RS) := if 5 ≤ x1 then some σ else (kn_st (rs_A σ 8 (upd (rg_A σ 8) x1.toNatClampNeg (-1))) 5 x1 (fun σ1 => kn_v (x1 + 1) (fun v2 => k9 σ1 v2)))
set_option maxRecDepth 100000 in
set_option maxHeartbeats 4000000 in
theorem p_rX12_clearFailed_b9 {p : Program} {l : Launch} {e : Env} {s : State} {m : MethodId} {args : Array Value} {below : List Frame} {meth : Method} {c : Code} {dC : Nat → ClassId} {dI : Nat → Nat → Nat} {kA : Nat → ClassId} {ad : Nat → Nat} (C : jxc cX12_clearFailed none 2 RX12 p s m args meth c dC dI kA) (hap : jw_ap 32 ad) {res : RS} {k9 : RS → Int32 → Option (RS)} (hk9 : G_rX12_clearFailed_b9 p l e s m args below meth c dC dI kA ad res k9) : G_rX12_clearFailed_b9 p l e s m args below meth c dC dI kA ad res (s_rX12_clearFailed_b9 k9) := by
  obtain ⟨hx, hb, hml, hown, hts, hr, hlocks, hK, hN⟩ := id C
  intro σ x1 hf H locs ls hP hS hl
  unfold s_rX12_clearFailed_b9 at hf
  refine lv_iload_n hx hb dX12_clearFailed_9 rfl (lv_at hl 1 rfl) ?_
  refine lv_iconst (v := 5) hx hb dX12_clearFailed_10 (by decide) ?_
  refine jc_ge (tgt := 27) hx hb hf dX12_clearFailed_11 (by decide) (fun hf => ?_) (fun hf => ?_)
  · exact jr_u hx hb hr hlocks hf hP hS dX12_clearFailed_27
  · refine lv_aload_n hx hb dX12_clearFailed_14 rfl (lv_at hl 0 rfl) ?_
    refine r_gX12_failed hx hb hts hown hK hP (hts _ kw_777) dX12_clearFailed_15 ?_
    refine lv_iload_n hx hb dX12_clearFailed_18 rfl (lv_at hl 1 rfl) ?_
    refine lv_iconst (v := (-1)) hx hb dX12_clearFailed_19 (by decide) ?_
    refine ja_ist hx hb hK (r_D hap σ) hP hS 12 0 rfl rfl r_sA8 hf dX12_clearFailed_20 (fun σ1 H locs hP hS hf => ?_)
    obtain ⟨v2, e_v2, hf⟩ := kn_v_e hf
    refine lv_iinc (v := v2) (lv' := [(1, .int v2), (0, .ref (ad 0))]) hx hb dX12_clearFailed_21 hl (k := 1) rfl e_v2 (by decide) rfl (fun ls hl => ?_)
    refine lv_goto (tgt := 9) hx hb dX12_clearFailed_24 (by decide) ?_
    exact hk9 σ1 v2 hf H locs ls hP hS (lv_sub hl [1, 0] rfl)
def f_rX12_clearFailed_b9 : RS → Int32 → Option (RS) := kn_fix (fun _ _ => none) (s_rX12_clearFailed_b9) FU
theorem q_rX12_clearFailed_b9 {p : Program} {l : Launch} {e : Env} {s : State} {m : MethodId} {args : Array Value} {below : List Frame} {meth : Method} {c : Code} {dC : Nat → ClassId} {dI : Nat → Nat → Nat} {kA : Nat → ClassId} {ad : Nat → Nat} (C : jxc cX12_clearFailed none 2 RX12 p s m args meth c dC dI kA) (hap : jw_ap 32 ad) {res : RS} : G_rX12_clearFailed_b9 p l e s m args below meth c dC dI kA ad res (f_rX12_clearFailed_b9) := kn_fix_ind (G := fun F => G_rX12_clearFailed_b9 p l e s m args below meth c dC dI kA ad res F) (fun _ _ hf => by cases hf) (fun k9 hk9 => p_rX12_clearFailed_b9 C hap hk9) FU
def s_rX12_clearFailed (σ : RS) : Option (RS) := kn_st (rs_A σ 8 (upd (rg_A σ 8) (0 : Int32).toNatClampNeg 0)) 5 0 (fun σ1 => f_rX12_clearFailed_b9 σ1 1)
set_option maxRecDepth 100000 in
set_option maxHeartbeats 4000000 in
theorem p_rX12_clearFailed {p : Program} {l : Launch} {e : Env} {s : State} {m : MethodId} {args : Array Value} {below : List Frame} {meth : Method} {c : Code} {dC : Nat → ClassId} {dI : Nat → Nat → Nat} {kA : Nat → ClassId} {ad : Nat → Nat} (C : jxc cX12_clearFailed none 2 RX12 p s m args meth c dC dI kA) (hap : jw_ap 32 ad) {res : RS} : G_rX12_clearFailed p l e s m args below meth c dC dI kA ad res (s_rX12_clearFailed) := by
  obtain ⟨hx, hb, hml, hown, hts, hr, hlocks, hK, hN⟩ := id C
  intro σ hf H locs ls hP hS hl
  unfold s_rX12_clearFailed at hf
  refine lv_aload_n hx hb dX12_clearFailed_0 rfl (lv_at hl 0 rfl) ?_
  refine r_gX12_failed hx hb hts hown hK hP (hts _ kw_777) dX12_clearFailed_1 ?_
  refine lv_iconst (v := 0) hx hb dX12_clearFailed_4 (by decide) ?_
  refine lv_iconst (v := 0) hx hb dX12_clearFailed_5 (by decide) ?_
  refine ja_ist hx hb hK (r_D hap σ) hP hS 12 0 rfl rfl r_sA8 hf dX12_clearFailed_6 (fun σ1 H locs hP hS hf => ?_)
  refine lv_iconst (v := 1) hx hb dX12_clearFailed_7 (by decide) ?_
  refine lv_istore_n (lv' := [(1, .int 1), (0, .ref (ad 0))]) hx hb dX12_clearFailed_8 rfl hl (by decide) rfl (fun ls hl => ?_)
  exact (q_rX12_clearFailed_b9 C hap) σ1 1 hf H locs ls hP hS (lv_sub hl [1, 0] rfl)
theorem c_rX12_clearFailed (l : Launch) {dC : Nat → ClassId} {dI : Nat → Nat → Nat} {kA : Nat → ClassId} {ad : Nat → Nat} (hap : jw_ap 32 ad) (σ : RS) (res : RS) (hf : s_rX12_clearFailed σ = some res) : jm_u l KW NW (dC, dI) vwCl (jtys kA) (jw_A 32 ad) (r_w kA ad) yX12_clearFailed cX12_clearFailed 2 (rm_rX12_clearFailed) [.ref (ad 0)] σ res := jm_u_of (by decide) (Nat.le_of_ble_eq_true rfl) (fun p e s m below meth c C hP hS ls hl => p_rX12_clearFailed C hap σ hf s.heap [] ls hP hS hl)

def rm_rX12_note : Room := { frames := 0, cells := 0, slots := 0, locals := 0 }
def G_rX12_note (p : Program) (l : Launch) (e : Env) (s : State) (m : MethodId) (args : Array Value) (below : List Frame) (meth : Method) (c : Code) (dC : Nat → ClassId) (dI : Nat → Nat → Nat) (kA : Nat → ClassId) (ad : Nat → Nat) (res : RS) (F : RS → Int32 → Int32 → Int32 → Int32 → Option (RS)) : Prop := ∀ (σ : RS) (x1 : Int32) (x2 : Int32) (x3 : Int32) (x4 : Int32), F σ x1 x2 x3 x4 = some res → ∀ (H : Heap) (locs : List Loc) (ls : Array Slot), va_P (dC, dI) vwCl (r_w kA ad σ) H → va_S (jw_A 32 ad) s.heap H locs → lv_has ls 5 [(0, .ref (ad 0)), (1, .int x1), (2, .int x2), (3, .int x3), (4, .int x4)] → W p l e rm_rX12_note s m args below meth c H locs 0 0 (r_Qu below dC dI kA ad args s res) (F0 m 0 ls [])
def s_rX12_note (σ : RS) (x1 : Int32) (x2 : Int32) (x3 : Int32) (x4 : Int32) : Option (RS) := kn_st (rs_A σ 8 (upd (rg_A σ 8) (0 : Int32).toNatClampNeg x1)) 5 0 (fun σ1 => kn_st (rs_A σ1 8 (upd (rg_A σ1 8) (1 : Int32).toNatClampNeg x2)) 5 1 (fun σ2 => kn_st (rs_A σ2 8 (upd (rg_A σ2 8) (2 : Int32).toNatClampNeg x3)) 5 2 (fun σ3 => kn_st (rs_A σ3 8 (upd (rg_A σ3 8) (3 : Int32).toNatClampNeg x4)) 5 3 (fun σ4 => kn_st (rs_A σ4 8 (upd (rg_A σ4 8) (4 : Int32).toNatClampNeg ((rg_I σ4 4) + 1))) 5 4 (fun σ5 => some σ5)))))
set_option maxRecDepth 100000 in
set_option maxHeartbeats 4000000 in
theorem p_rX12_note {p : Program} {l : Launch} {e : Env} {s : State} {m : MethodId} {args : Array Value} {below : List Frame} {meth : Method} {c : Code} {dC : Nat → ClassId} {dI : Nat → Nat → Nat} {kA : Nat → ClassId} {ad : Nat → Nat} (C : jxc cX12_note none 5 RX12 p s m args meth c dC dI kA) (hap : jw_ap 32 ad) {res : RS} : G_rX12_note p l e s m args below meth c dC dI kA ad res (s_rX12_note) := by
  obtain ⟨hx, hb, hml, hown, hts, hr, hlocks, hK, hN⟩ := id C
  intro σ x1 x2 x3 x4 hf H locs ls hP hS hl
  unfold s_rX12_note at hf
  refine lv_aload_n hx hb dX12_note_0 rfl (lv_at hl 0 rfl) ?_
  refine r_gX12_failed hx hb hts hown hK hP (hts _ kw_777) dX12_note_1 ?_
  refine lv_iconst (v := 0) hx hb dX12_note_4 (by decide) ?_
  refine lv_iload_n hx hb dX12_note_5 rfl (lv_at hl 1 rfl) ?_
  refine ja_ist hx hb hK (r_D hap σ) hP hS 12 0 rfl rfl r_sA8 hf dX12_note_6 (fun σ1 H locs hP hS hf => ?_)
  refine lv_aload_n hx hb dX12_note_7 rfl (lv_at hl 0 rfl) ?_
  refine r_gX12_failed hx hb hts hown hK hP (hts _ kw_777) dX12_note_8 ?_
  refine lv_iconst (v := 1) hx hb dX12_note_11 (by decide) ?_
  refine lv_iload_n hx hb dX12_note_12 rfl (lv_at hl 2 rfl) ?_
  refine ja_ist hx hb hK (r_D hap σ1) hP hS 12 0 rfl rfl r_sA8 hf dX12_note_13 (fun σ2 H locs hP hS hf => ?_)
  refine lv_aload_n hx hb dX12_note_14 rfl (lv_at hl 0 rfl) ?_
  refine r_gX12_failed hx hb hts hown hK hP (hts _ kw_777) dX12_note_15 ?_
  refine lv_iconst (v := 2) hx hb dX12_note_18 (by decide) ?_
  refine lv_iload_n hx hb dX12_note_19 rfl (lv_at hl 3 rfl) ?_
  refine ja_ist hx hb hK (r_D hap σ2) hP hS 12 0 rfl rfl r_sA8 hf dX12_note_20 (fun σ3 H locs hP hS hf => ?_)
  refine lv_aload_n hx hb dX12_note_21 rfl (lv_at hl 0 rfl) ?_
  refine r_gX12_failed hx hb hts hown hK hP (hts _ kw_777) dX12_note_22 ?_
  refine lv_iconst (v := 3) hx hb dX12_note_25 (by decide) ?_
  refine lv_iload hx hb dX12_note_26 (lv_at hl 4 rfl) ?_
  refine ja_ist hx hb hK (r_D hap σ3) hP hS 12 0 rfl rfl r_sA8 hf dX12_note_28 (fun σ4 H locs hP hS hf => ?_)
  refine lv_aload_n hx hb dX12_note_29 rfl (lv_at hl 0 rfl) ?_
  refine r_gX12_failed hx hb hts hown hK hP (hts _ kw_777) dX12_note_30 ?_
  refine lv_iconst (v := 4) hx hb dX12_note_33 (by decide) ?_
  refine lv_aload_n hx hb dX12_note_34 rfl (lv_at hl 0 rfl) ?_
  refine r_gX12_rounds hx hb hts hown hK hP (hts _ kw_775) dX12_note_35 ?_
  refine lv_iconst (v := 1) hx hb dX12_note_38 (by decide) ?_
  refine lv_iadd hx hb dX12_note_39 ?_
  refine ja_ist hx hb hK (r_D hap σ4) hP hS 12 0 rfl rfl r_sA8 hf dX12_note_40 (fun σ5 H locs hP hS hf => ?_)
  exact jr_u hx hb hr hlocks hf hP hS dX12_note_41
theorem c_rX12_note (l : Launch) {dC : Nat → ClassId} {dI : Nat → Nat → Nat} {kA : Nat → ClassId} {ad : Nat → Nat} (hap : jw_ap 32 ad) (σ : RS) (x1 : Int32) (x2 : Int32) (x3 : Int32) (x4 : Int32) (res : RS) (hf : s_rX12_note σ x1 x2 x3 x4 = some res) : jm_u l KW NW (dC, dI) vwCl (jtys kA) (jw_A 32 ad) (r_w kA ad) yX12_note cX12_note 5 (rm_rX12_note) [.ref (ad 0), .int x1, .int x2, .int x3, .int x4] σ res := jm_u_of (by decide) (Nat.le_of_ble_eq_true rfl) (fun p e s m below meth c C hP hS ls hl => p_rX12_note C hap σ x1 x2 x3 x4 hf s.heap [] ls hP hS hl)

def rm_rX12_isFailed : Room := { frames := 0, cells := 0, slots := 0, locals := 0 }
def G_rX12_isFailed (p : Program) (l : Launch) (e : Env) (s : State) (m : MethodId) (args : Array Value) (below : List Frame) (meth : Method) (c : Code) (dC : Nat → ClassId) (dI : Nat → Nat → Nat) (kA : Nat → ClassId) (ad : Nat → Nat) (res : Int32 × RS) (F : RS → Option (Int32 × RS)) : Prop := ∀ (σ : RS), F σ = some res → ∀ (H : Heap) (locs : List Loc) (ls : Array Slot), va_P (dC, dI) vwCl (r_w kA ad σ) H → va_S (jw_A 32 ad) s.heap H locs → lv_has ls 1 [(0, .ref (ad 0))] → W p l e rm_rX12_isFailed s m args below meth c H locs 0 0 (r_Qi below dC dI kA ad args s res) (F0 m 0 ls [])
def s_rX12_isFailed (σ : RS) : Option (Int32 × RS) := kn_ld (rg_A σ 8) 5 0 (fun v1 => if v1 = 0 then (some (0, σ)) else (some (1, σ)))
set_option maxRecDepth 100000 in
set_option maxHeartbeats 4000000 in
theorem p_rX12_isFailed {p : Program} {l : Launch} {e : Env} {s : State} {m : MethodId} {args : Array Value} {below : List Frame} {meth : Method} {c : Code} {dC : Nat → ClassId} {dI : Nat → Nat → Nat} {kA : Nat → ClassId} {ad : Nat → Nat} (C : jxc cX12_isFailed (some .boolean) 1 RX12 p s m args meth c dC dI kA) (hap : jw_ap 32 ad) {res : Int32 × RS} : G_rX12_isFailed p l e s m args below meth c dC dI kA ad res (s_rX12_isFailed) := by
  obtain ⟨hx, hb, hml, hown, hts, hr, hlocks, hK, hN⟩ := id C
  intro σ hf H locs ls hP hS hl
  unfold s_rX12_isFailed at hf
  refine lv_aload_n hx hb dX12_isFailed_0 rfl (lv_at hl 0 rfl) ?_
  refine r_gX12_failed hx hb hts hown hK hP (hts _ kw_777) dX12_isFailed_1 ?_
  refine lv_iconst (v := 0) hx hb dX12_isFailed_4 (by decide) ?_
  refine ja_ild hx hb hK hP 12 0 rfl rfl hf dX12_isFailed_5 (fun v1 hf => ?_)
  refine jb_eq (tgt := 13) hx hb hf dX12_isFailed_6 (by decide) (fun hf => ?_) (fun hf => ?_)
  · refine lv_iconst (v := 0) hx hb dX12_isFailed_13 (by decide) ?_
    exact jr_i hx hb hr hlocks hf (by decide) hP hS dX12_isFailed_14
  · refine lv_iconst (v := 1) hx hb dX12_isFailed_9 (by decide) ?_
    refine lv_goto (tgt := 14) hx hb dX12_isFailed_10 (by decide) ?_
    exact jr_i hx hb hr hlocks hf (by decide) hP hS dX12_isFailed_14
theorem c_rX12_isFailed (l : Launch) {dC : Nat → ClassId} {dI : Nat → Nat → Nat} {kA : Nat → ClassId} {ad : Nat → Nat} (hap : jw_ap 32 ad) (σ : RS) (res : Int32 × RS) (hf : s_rX12_isFailed σ = some res) : jm_i l KW NW (dC, dI) vwCl (jtys kA) (jw_A 32 ad) (r_w kA ad) yX12_isFailed cX12_isFailed 1 .boolean (rm_rX12_isFailed) [.ref (ad 0)] σ res := jm_i_of (by decide) (Nat.le_of_ble_eq_true rfl) (fun p e s m below meth c C hP hS ls hl => p_rX12_isFailed C hap σ hf s.heap [] ls hP hS hl)

def rm_rX12_isOver : Room := { frames := 0, cells := 0, slots := 0, locals := 0 }
def G_rX12_isOver (p : Program) (l : Launch) (e : Env) (s : State) (m : MethodId) (args : Array Value) (below : List Frame) (meth : Method) (c : Code) (dC : Nat → ClassId) (dI : Nat → Nat → Nat) (kA : Nat → ClassId) (ad : Nat → Nat) (res : Int32 × RS) (F : RS → Int64 → Int64 → Option (Int32 × RS)) : Prop := ∀ (σ : RS) (x1 : Int64) (x3 : Int64), F σ x1 x3 = some res → ∀ (H : Heap) (locs : List Loc) (ls : Array Slot), va_P (dC, dI) vwCl (r_w kA ad σ) H → va_S (jw_A 32 ad) s.heap H locs → lv_has ls 7 [(0, .ref (ad 0)), (1, .long x1), (3, .long x3)] → W p l e rm_rX12_isOver s m args below meth c H locs 0 0 (r_Qi below dC dI kA ad args s res) (F0 m 0 ls [])
def s_rX12_isOver (σ : RS) (x1 : Int64) (x3 : Int64) : Option (Int32 × RS) := kn_v (x1 + x3) (fun v1 => if 0 ≤ (x1 ^^^ v1) then (some (0, σ)) else (if 0 ≤ (x3 ^^^ v1) then (some (0, σ)) else (some (1, σ))))
set_option maxRecDepth 100000 in
set_option maxHeartbeats 4000000 in
theorem p_rX12_isOver {p : Program} {l : Launch} {e : Env} {s : State} {m : MethodId} {args : Array Value} {below : List Frame} {meth : Method} {c : Code} {dC : Nat → ClassId} {dI : Nat → Nat → Nat} {kA : Nat → ClassId} {ad : Nat → Nat} (C : jxc cX12_isOver (some .boolean) 7 RX12 p s m args meth c dC dI kA) (hap : jw_ap 32 ad) {res : Int32 × RS} : G_rX12_isOver p l e s m args below meth c dC dI kA ad res (s_rX12_isOver) := by
  obtain ⟨hx, hb, hml, hown, hts, hr, hlocks, hK, hN⟩ := id C
  intro σ x1 x3 hf H locs ls hP hS hl
  unfold s_rX12_isOver at hf
  refine lv_lload_n hx hb dX12_isOver_0 rfl (lv_at hl 1 rfl) ?_
  refine lv_lload_n hx hb dX12_isOver_1 rfl (lv_at hl 2 rfl) ?_
  refine lv_ladd hx hb dX12_isOver_2 ?_
  refine jn_l hf (fun v1 hf => ?_)
  refine lv_lstore (lv' := [(5, .long v1), (0, .ref (ad 0)), (1, .long x1), (3, .long x3)]) hx hb dX12_isOver_3 hl (by decide) rfl (fun ls hl => ?_)
  refine lv_lload_n hx hb dX12_isOver_5 rfl (lv_at hl 2 rfl) ?_
  refine lv_lload hx hb dX12_isOver_6 (lv_at hl 0 rfl) ?_
  refine lv_lxor hx hb dX12_isOver_8 ?_
  refine lv_lconst (v := 0) hx hb dX12_isOver_9 (by decide) ?_
  refine jl_ge (tgt := 27) hx hb hf dX12_isOver_10 dX12_isOver_11 (by decide) (fun hf => ?_) (fun hf => ?_)
  · refine lv_iconst (v := 0) hx hb dX12_isOver_27 (by decide) ?_
    exact jr_i hx hb hr hlocks hf (by decide) hP hS dX12_isOver_28
  · refine lv_lload_n hx hb dX12_isOver_14 rfl (lv_at hl 3 rfl) ?_
    refine lv_lload hx hb dX12_isOver_15 (lv_at hl 0 rfl) ?_
    refine lv_lxor hx hb dX12_isOver_17 ?_
    refine lv_lconst (v := 0) hx hb dX12_isOver_18 (by decide) ?_
    refine jl_ge (tgt := 27) hx hb hf dX12_isOver_19 dX12_isOver_20 (by decide) (fun hf => ?_) (fun hf => ?_)
    · refine lv_iconst (v := 0) hx hb dX12_isOver_27 (by decide) ?_
      exact jr_i hx hb hr hlocks hf (by decide) hP hS dX12_isOver_28
    · refine lv_iconst (v := 1) hx hb dX12_isOver_23 (by decide) ?_
      refine lv_goto (tgt := 28) hx hb dX12_isOver_24 (by decide) ?_
      exact jr_i hx hb hr hlocks hf (by decide) hP hS dX12_isOver_28
theorem c_rX12_isOver (l : Launch) {dC : Nat → ClassId} {dI : Nat → Nat → Nat} {kA : Nat → ClassId} {ad : Nat → Nat} (hap : jw_ap 32 ad) (σ : RS) (x1 : Int64) (x3 : Int64) (res : Int32 × RS) (hf : s_rX12_isOver σ x1 x3 = some res) : jm_i l KW NW (dC, dI) vwCl (jtys kA) (jw_A 32 ad) (r_w kA ad) yX12_isOver cX12_isOver 7 .boolean (rm_rX12_isOver) [.ref (ad 0), .long x1, .long x3] σ res := jm_i_of (by decide) (Nat.le_of_ble_eq_true rfl) (fun p e s m below meth c C hP hS ls hl => p_rX12_isOver C hap σ x1 x3 hf s.heap [] ls hP hS hl)

def rm_rX12_foldFor : Room := { frames := 1, cells := 0, slots := 0, locals := 26 }
def G_rX12_foldFor_b180 (p : Program) (l : Launch) (e : Env) (s : State) (m : MethodId) (args : Array Value) (below : List Frame) (meth : Method) (c : Code) (dC : Nat → ClassId) (dI : Nat → Nat → Nat) (kA : Nat → ClassId) (ad : Nat → Nat) (res : RS) (F : RS → Int32 → Int32 → Option (RS)) : Prop := ∀ (σ : RS) (x1 : Int32) (x2 : Int32), F σ x1 x2 = some res → ∀ (H : Heap) (locs : List Loc) (ls : Array Slot), va_P (dC, dI) vwCl (r_w kA ad σ) H → va_S (jw_A 32 ad) s.heap H locs → lv_has ls 5 [(0, .ref (ad 0)), (1, .int x1), (2, .int x2)] → W p l e rm_rX12_foldFor s m args below meth c H locs 0 0 (r_Qu below dC dI kA ad args s res) (F0 m 180 ls [])
def G_rX12_foldFor_b170 (p : Program) (l : Launch) (e : Env) (s : State) (m : MethodId) (args : Array Value) (below : List Frame) (meth : Method) (c : Code) (dC : Nat → ClassId) (dI : Nat → Nat → Nat) (kA : Nat → ClassId) (ad : Nat → Nat) (res : RS) (F : RS → Int32 → Int32 → Option (RS)) : Prop := ∀ (σ : RS) (x1 : Int32) (x2 : Int32), F σ x1 x2 = some res → ∀ (H : Heap) (locs : List Loc) (ls : Array Slot), va_P (dC, dI) vwCl (r_w kA ad σ) H → va_S (jw_A 32 ad) s.heap H locs → lv_has ls 5 [(0, .ref (ad 0)), (1, .int x1), (2, .int x2)] → W p l e rm_rX12_foldFor s m args below meth c H locs 0 0 (r_Qu below dC dI kA ad args s res) (F0 m 170 ls [])
def G_rX12_foldFor_b68 (p : Program) (l : Launch) (e : Env) (s : State) (m : MethodId) (args : Array Value) (below : List Frame) (meth : Method) (c : Code) (dC : Nat → ClassId) (dI : Nat → Nat → Nat) (kA : Nat → ClassId) (ad : Nat → Nat) (res : RS) (F : RS → Int32 → Int32 → Int64 → Option (RS)) : Prop := ∀ (σ : RS) (x1 : Int32) (x2 : Int32) (x3 : Int64), F σ x1 x2 x3 = some res → ∀ (H : Heap) (locs : List Loc) (ls : Array Slot), va_P (dC, dI) vwCl (r_w kA ad σ) H → va_S (jw_A 32 ad) s.heap H locs → lv_has ls 5 [(0, .ref (ad 0)), (1, .int x1), (2, .int x2), (3, .long x3)] → W p l e rm_rX12_foldFor s m args below meth c H locs 0 0 (r_Qu below dC dI kA ad args s res) (F0 m 68 ls [])
def G_rX12_foldFor_b167 (p : Program) (l : Launch) (e : Env) (s : State) (m : MethodId) (args : Array Value) (below : List Frame) (meth : Method) (c : Code) (dC : Nat → ClassId) (dI : Nat → Nat → Nat) (kA : Nat → ClassId) (ad : Nat → Nat) (res : RS) (F : RS → Int32 → Int32 → Int64 → Option (RS)) : Prop := ∀ (σ : RS) (x1 : Int32) (x2 : Int32) (s0 : Int64), F σ x1 x2 s0 = some res → ∀ (H : Heap) (locs : List Loc) (ls : Array Slot), va_P (dC, dI) vwCl (r_w kA ad σ) H → va_S (jw_A 32 ad) s.heap H locs → lv_has ls 5 [(0, .ref (ad 0)), (1, .int x1), (2, .int x2)] → W p l e rm_rX12_foldFor s m args below meth c H locs 0 0 (r_Qu below dC dI kA ad args s res) (F0 m 167 ls [.long s0, .ref (ad 0)])
def G_rX12_foldFor_b143 (p : Program) (l : Launch) (e : Env) (s : State) (m : MethodId) (args : Array Value) (below : List Frame) (meth : Method) (c : Code) (dC : Nat → ClassId) (dI : Nat → Nat → Nat) (kA : Nat → ClassId) (ad : Nat → Nat) (res : RS) (F : RS → Int32 → Int32 → Int64 → Option (RS)) : Prop := ∀ (σ : RS) (x1 : Int32) (x2 : Int32) (s0 : Int64), F σ x1 x2 s0 = some res → ∀ (H : Heap) (locs : List Loc) (ls : Array Slot), va_P (dC, dI) vwCl (r_w kA ad σ) H → va_S (jw_A 32 ad) s.heap H locs → lv_has ls 5 [(0, .ref (ad 0)), (1, .int x1), (2, .int x2)] → W p l e rm_rX12_foldFor s m args below meth c H locs 0 0 (r_Qu below dC dI kA ad args s res) (F0 m 143 ls [.long s0, .ref (ad 0)])
def G_rX12_foldFor_b104 (p : Program) (l : Launch) (e : Env) (s : State) (m : MethodId) (args : Array Value) (below : List Frame) (meth : Method) (c : Code) (dC : Nat → ClassId) (dI : Nat → Nat → Nat) (kA : Nat → ClassId) (ad : Nat → Nat) (res : RS) (F : RS → Int32 → Int32 → Int64 → Option (RS)) : Prop := ∀ (σ : RS) (x1 : Int32) (x2 : Int32) (x3 : Int64), F σ x1 x2 x3 = some res → ∀ (H : Heap) (locs : List Loc) (ls : Array Slot), va_P (dC, dI) vwCl (r_w kA ad σ) H → va_S (jw_A 32 ad) s.heap H locs → lv_has ls 5 [(0, .ref (ad 0)), (1, .int x1), (2, .int x2), (3, .long x3)] → W p l e rm_rX12_foldFor s m args below meth c H locs 0 0 (r_Qu below dC dI kA ad args s res) (F0 m 104 ls [])
def G_rX12_foldFor_b12 (p : Program) (l : Launch) (e : Env) (s : State) (m : MethodId) (args : Array Value) (below : List Frame) (meth : Method) (c : Code) (dC : Nat → ClassId) (dI : Nat → Nat → Nat) (kA : Nat → ClassId) (ad : Nat → Nat) (res : RS) (F : RS → Int32 → Int32 → Option (RS)) : Prop := ∀ (σ : RS) (x1 : Int32) (x2 : Int32), F σ x1 x2 = some res → ∀ (H : Heap) (locs : List Loc) (ls : Array Slot), va_P (dC, dI) vwCl (r_w kA ad σ) H → va_S (jw_A 32 ad) s.heap H locs → lv_has ls 5 [(0, .ref (ad 0)), (1, .int x1), (2, .int x2)] → W p l e rm_rX12_foldFor s m args below meth c H locs 0 0 (r_Qu below dC dI kA ad args s res) (F0 m 12 ls [])
def G_rX12_foldFor (p : Program) (l : Launch) (e : Env) (s : State) (m : MethodId) (args : Array Value) (below : List Frame) (meth : Method) (c : Code) (dC : Nat → ClassId) (dI : Nat → Nat → Nat) (kA : Nat → ClassId) (ad : Nat → Nat) (res : RS) (F : RS → Int32 → Option (RS)) : Prop := ∀ (σ : RS) (x1 : Int32), F σ x1 = some res → ∀ (H : Heap) (locs : List Loc) (ls : Array Slot), va_P (dC, dI) vwCl (r_w kA ad σ) H → va_S (jw_A 32 ad) s.heap H locs → lv_has ls 5 [(0, .ref (ad 0)), (1, .int x1)] → W p l e rm_rX12_foldFor s m args below meth c H locs 0 0 (r_Qu below dC dI kA ad args s res) (F0 m 0 ls [])
def s_rX12_foldFor_b180 (k12 : RS → Int32 → Int32 → Option (RS)) (σ : RS) (x1 : Int32) (x2 : Int32) : Option (RS) := kn_v (x2 + 1) (fun v1 => k12 σ x1 v1)
set_option maxRecDepth 100000 in
set_option maxHeartbeats 4000000 in
theorem p_rX12_foldFor_b180 {p : Program} {l : Launch} {e : Env} {s : State} {m : MethodId} {args : Array Value} {below : List Frame} {meth : Method} {c : Code} {dC : Nat → ClassId} {dI : Nat → Nat → Nat} {kA : Nat → ClassId} {ad : Nat → Nat} (C : jxc cX12_foldFor none 5 RX12 p s m args meth c dC dI kA) (hap : jw_ap 32 ad) {res : RS} {k12 : RS → Int32 → Int32 → Option (RS)} (hk12 : G_rX12_foldFor_b12 p l e s m args below meth c dC dI kA ad res k12) : G_rX12_foldFor_b180 p l e s m args below meth c dC dI kA ad res (s_rX12_foldFor_b180 k12) := by
  obtain ⟨hx, hb, hml, hown, hts, hr, hlocks, hK, hN⟩ := id C
  intro σ x1 x2 hf H locs ls hP hS hl
  unfold s_rX12_foldFor_b180 at hf
  obtain ⟨v1, e_v1, hf⟩ := kn_v_e hf
  refine lv_iinc (v := v1) (lv' := [(2, .int v1), (0, .ref (ad 0)), (1, .int x1)]) hx hb dX12_foldFor_180 hl (k := 2) rfl e_v1 (by decide) rfl (fun ls hl => ?_)
  refine lv_goto (tgt := 12) hx hb dX12_foldFor_183 (by decide) ?_
  exact hk12 σ x1 v1 hf H locs ls hP hS (lv_sub hl [1, 2, 0] rfl)
def s_rX12_foldFor_b170 (k12 : RS → Int32 → Int32 → Option (RS)) (σ : RS) (x1 : Int32) (x2 : Int32) : Option (RS) := kn_v (rs_I σ 14 ((rg_I σ 14) + 1)) (fun σ1 => s_rX12_foldFor_b180 k12 σ1 x1 x2)
set_option maxRecDepth 100000 in
set_option maxHeartbeats 4000000 in
theorem p_rX12_foldFor_b170 {p : Program} {l : Launch} {e : Env} {s : State} {m : MethodId} {args : Array Value} {below : List Frame} {meth : Method} {c : Code} {dC : Nat → ClassId} {dI : Nat → Nat → Nat} {kA : Nat → ClassId} {ad : Nat → Nat} (C : jxc cX12_foldFor none 5 RX12 p s m args meth c dC dI kA) (hap : jw_ap 32 ad) {res : RS} {k12 : RS → Int32 → Int32 → Option (RS)} (hk12 : G_rX12_foldFor_b12 p l e s m args below meth c dC dI kA ad res k12) : G_rX12_foldFor_b170 p l e s m args below meth c dC dI kA ad res (s_rX12_foldFor_b170 k12) := by
  obtain ⟨hx, hb, hml, hown, hts, hr, hlocks, hK, hN⟩ := id C
  intro σ x1 x2 hf H locs ls hP hS hl
  unfold s_rX12_foldFor_b170 at hf
  refine lv_aload_n hx hb dX12_foldFor_170 rfl (lv_at hl 0 rfl) ?_
  refine lv_dup hx hb dX12_foldFor_171 rfl ?_
  refine r_gX12_many hx hb hts hown hK hP (hts _ kw_797) dX12_foldFor_172 ?_
  refine lv_iconst (v := 1) hx hb dX12_foldFor_175 (by decide) ?_
  refine lv_iadd hx hb dX12_foldFor_176 ?_
  refine r_pX12_many hx hb hts hown hK hap hP hS hf (hts _ kw_797) dX12_foldFor_177 (fun σ1 H locs hP hS hf => ?_)
  exact (p_rX12_foldFor_b180 C hap hk12) σ1 x1 x2 hf H locs ls hP hS (lv_sub hl [0, 1, 2] rfl)
def s_rX12_foldFor_b68 (k12 : RS → Int32 → Int32 → Option (RS)) (σ : RS) (x1 : Int32) (x2 : Int32) (x3 : Int64) : Option (RS) := kn_v (rs_L σ 2 x3) (fun σ1 => s_rX12_foldFor_b170 k12 σ1 x1 x2)
set_option maxRecDepth 100000 in
set_option maxHeartbeats 4000000 in
theorem p_rX12_foldFor_b68 {p : Program} {l : Launch} {e : Env} {s : State} {m : MethodId} {args : Array Value} {below : List Frame} {meth : Method} {c : Code} {dC : Nat → ClassId} {dI : Nat → Nat → Nat} {kA : Nat → ClassId} {ad : Nat → Nat} (C : jxc cX12_foldFor none 5 RX12 p s m args meth c dC dI kA) (hap : jw_ap 32 ad) {res : RS} {k12 : RS → Int32 → Int32 → Option (RS)} (hk12 : G_rX12_foldFor_b12 p l e s m args below meth c dC dI kA ad res k12) : G_rX12_foldFor_b68 p l e s m args below meth c dC dI kA ad res (s_rX12_foldFor_b68 k12) := by
  obtain ⟨hx, hb, hml, hown, hts, hr, hlocks, hK, hN⟩ := id C
  intro σ x1 x2 x3 hf H locs ls hP hS hl
  unfold s_rX12_foldFor_b68 at hf
  refine lv_aload_n hx hb dX12_foldFor_68 rfl (lv_at hl 0 rfl) ?_
  refine lv_lload_n hx hb dX12_foldFor_69 rfl (lv_at hl 3 rfl) ?_
  refine r_pX12_folded hx hb hts hown hK hap hP hS hf (hts _ kw_796) dX12_foldFor_70 (fun σ1 H locs hP hS hf => ?_)
  refine lv_goto (tgt := 170) hx hb dX12_foldFor_73 (by decide) ?_
  exact (p_rX12_foldFor_b170 C hap hk12) σ1 x1 x2 hf H locs ls hP hS (lv_sub hl [0, 1, 2] rfl)
def s_rX12_foldFor_b167 (k12 : RS → Int32 → Int32 → Option (RS)) (σ : RS) (x1 : Int32) (x2 : Int32) (s0 : Int64) : Option (RS) := kn_v (rs_L σ 2 s0) (fun σ1 => s_rX12_foldFor_b170 k12 σ1 x1 x2)
set_option maxRecDepth 100000 in
set_option maxHeartbeats 4000000 in
theorem p_rX12_foldFor_b167 {p : Program} {l : Launch} {e : Env} {s : State} {m : MethodId} {args : Array Value} {below : List Frame} {meth : Method} {c : Code} {dC : Nat → ClassId} {dI : Nat → Nat → Nat} {kA : Nat → ClassId} {ad : Nat → Nat} (C : jxc cX12_foldFor none 5 RX12 p s m args meth c dC dI kA) (hap : jw_ap 32 ad) {res : RS} {k12 : RS → Int32 → Int32 → Option (RS)} (hk12 : G_rX12_foldFor_b12 p l e s m args below meth c dC dI kA ad res k12) : G_rX12_foldFor_b167 p l e s m args below meth c dC dI kA ad res (s_rX12_foldFor_b167 k12) := by
  obtain ⟨hx, hb, hml, hown, hts, hr, hlocks, hK, hN⟩ := id C
  intro σ x1 x2 s0 hf H locs ls hP hS hl
  unfold s_rX12_foldFor_b167 at hf
  refine r_pX12_folded hx hb hts hown hK hap hP hS hf (hts _ kw_796) dX12_foldFor_167 (fun σ1 H locs hP hS hf => ?_)
  exact (p_rX12_foldFor_b170 C hap hk12) σ1 x1 x2 hf H locs ls hP hS (lv_sub hl [0, 1, 2] rfl)
def s_rX12_foldFor_b143 (k12 : RS → Int32 → Int32 → Option (RS)) (σ : RS) (x1 : Int32) (x2 : Int32) (s0 : Int64) : Option (RS) := kn_v (rs_L σ 2 s0) (fun σ1 => s_rX12_foldFor_b170 k12 σ1 x1 x2)
set_option maxRecDepth 100000 in
set_option maxHeartbeats 4000000 in
theorem p_rX12_foldFor_b143 {p : Program} {l : Launch} {e : Env} {s : State} {m : MethodId} {args : Array Value} {below : List Frame} {meth : Method} {c : Code} {dC : Nat → ClassId} {dI : Nat → Nat → Nat} {kA : Nat → ClassId} {ad : Nat → Nat} (C : jxc cX12_foldFor none 5 RX12 p s m args meth c dC dI kA) (hap : jw_ap 32 ad) {res : RS} {k12 : RS → Int32 → Int32 → Option (RS)} (hk12 : G_rX12_foldFor_b12 p l e s m args below meth c dC dI kA ad res k12) : G_rX12_foldFor_b143 p l e s m args below meth c dC dI kA ad res (s_rX12_foldFor_b143 k12) := by
  obtain ⟨hx, hb, hml, hown, hts, hr, hlocks, hK, hN⟩ := id C
  intro σ x1 x2 s0 hf H locs ls hP hS hl
  unfold s_rX12_foldFor_b143 at hf
  refine r_pX12_folded hx hb hts hown hK hap hP hS hf (hts _ kw_796) dX12_foldFor_143 (fun σ1 H locs hP hS hf => ?_)
  refine lv_goto (tgt := 170) hx hb dX12_foldFor_146 (by decide) ?_
  exact (p_rX12_foldFor_b170 C hap hk12) σ1 x1 x2 hf H locs ls hP hS (lv_sub hl [0, 1, 2] rfl)
def s_rX12_foldFor_b104 (k12 : RS → Int32 → Int32 → Option (RS)) (σ : RS) (x1 : Int32) (x2 : Int32) (x3 : Int64) : Option (RS) := kn_v (rs_L σ 2 ((rg_L σ 2) + x3)) (fun σ1 => s_rX12_foldFor_b170 k12 σ1 x1 x2)
set_option maxRecDepth 100000 in
set_option maxHeartbeats 4000000 in
theorem p_rX12_foldFor_b104 {p : Program} {l : Launch} {e : Env} {s : State} {m : MethodId} {args : Array Value} {below : List Frame} {meth : Method} {c : Code} {dC : Nat → ClassId} {dI : Nat → Nat → Nat} {kA : Nat → ClassId} {ad : Nat → Nat} (C : jxc cX12_foldFor none 5 RX12 p s m args meth c dC dI kA) (hap : jw_ap 32 ad) {res : RS} {k12 : RS → Int32 → Int32 → Option (RS)} (hk12 : G_rX12_foldFor_b12 p l e s m args below meth c dC dI kA ad res k12) : G_rX12_foldFor_b104 p l e s m args below meth c dC dI kA ad res (s_rX12_foldFor_b104 k12) := by
  obtain ⟨hx, hb, hml, hown, hts, hr, hlocks, hK, hN⟩ := id C
  intro σ x1 x2 x3 hf H locs ls hP hS hl
  unfold s_rX12_foldFor_b104 at hf
  refine lv_aload_n hx hb dX12_foldFor_104 rfl (lv_at hl 0 rfl) ?_
  refine lv_aload_n hx hb dX12_foldFor_105 rfl (lv_at hl 0 rfl) ?_
  refine r_gX12_folded hx hb hts hown hK hP (hts _ kw_796) dX12_foldFor_106 ?_
  refine lv_lload_n hx hb dX12_foldFor_109 rfl (lv_at hl 3 rfl) ?_
  refine lv_ladd hx hb dX12_foldFor_110 ?_
  refine r_pX12_folded hx hb hts hown hK hap hP hS hf (hts _ kw_796) dX12_foldFor_111 (fun σ1 H locs hP hS hf => ?_)
  refine lv_goto (tgt := 170) hx hb dX12_foldFor_114 (by decide) ?_
  exact (p_rX12_foldFor_b170 C hap hk12) σ1 x1 x2 hf H locs ls hP hS (lv_sub hl [0, 1, 2] rfl)
def s_rX12_foldFor_b12 (k12 : RS → Int32 → Int32 → Option (RS)) (σ : RS) (x1 : Int32) (x2 : Int32) : Option (RS) := if (rg_I σ 2) ≤ x2 then some σ else (kn_ld (rg_A σ 14) 40 x2 (fun v1 => if v1 = 0 then (s_rX12_foldFor_b180 k12 σ x1 x2) else (kn_ld (rg_A σ 6) 40 x2 (fun v2 => if v2 = x1 then (kn_i (s_rX12_isFailed σ) (fun v3 σ4 => if v3 = 0 then (kn_ld (rg_B σ4 7) 40 x2 (fun v5 => if (rg_I σ4 14) = 0 then (s_rX12_foldFor_b68 k12 σ4 x1 x2 v5) else (if (rg_I σ4 3) = 3 then (s_rX12_foldFor_b68 k12 σ4 x1 x2 v5) else (if (rg_I σ4 3) = 0 then (kn_i (s_rX12_isOver σ4 (rg_L σ4 2) v5) (fun v6 σ7 => if v6 = 0 then (s_rX12_foldFor_b104 k12 σ7 x1 x2 v5) else (kn_u (s_rX12_note σ7 3 7 x1 (-1)) (fun σ9 => s_rX12_foldFor_b104 k12 σ9 x1 x2 v5)))) else (if (rg_I σ4 3) = 1 then (if (rg_L σ4 2) ≤ v5 then (s_rX12_foldFor_b143 k12 σ4 x1 x2 (rg_L σ4 2)) else (s_rX12_foldFor_b143 k12 σ4 x1 x2 v5)) else (if v5 ≤ (rg_L σ4 2) then (s_rX12_foldFor_b167 k12 σ4 x1 x2 (rg_L σ4 2)) else (s_rX12_foldFor_b167 k12 σ4 x1 x2 v5))))))) else (s_rX12_foldFor_b180 k12 σ4 x1 x2))) else (s_rX12_foldFor_b180 k12 σ x1 x2)))))
set_option maxRecDepth 100000 in
set_option maxHeartbeats 4000000 in
theorem p_rX12_foldFor_b12 {p : Program} {l : Launch} {e : Env} {s : State} {m : MethodId} {args : Array Value} {below : List Frame} {meth : Method} {c : Code} {dC : Nat → ClassId} {dI : Nat → Nat → Nat} {kA : Nat → ClassId} {ad : Nat → Nat} (C : jxc cX12_foldFor none 5 RX12 p s m args meth c dC dI kA) (hap : jw_ap 32 ad) {res : RS} {k12 : RS → Int32 → Int32 → Option (RS)} (hk12 : G_rX12_foldFor_b12 p l e s m args below meth c dC dI kA ad res k12) : G_rX12_foldFor_b12 p l e s m args below meth c dC dI kA ad res (s_rX12_foldFor_b12 k12) := by
  obtain ⟨hx, hb, hml, hown, hts, hr, hlocks, hK, hN⟩ := id C
  intro σ x1 x2 hf H locs ls hP hS hl
  unfold s_rX12_foldFor_b12 at hf
  refine lv_iload_n hx hb dX12_foldFor_12 rfl (lv_at hl 2 rfl) ?_
  refine lv_aload_n hx hb dX12_foldFor_13 rfl (lv_at hl 0 rfl) ?_
  refine r_gX12_arcs hx hb hts hown hK hP (hts _ kw_768) dX12_foldFor_14 ?_
  refine jc_ge (tgt := 186) hx hb hf dX12_foldFor_17 (by decide) (fun hf => ?_) (fun hf => ?_)
  · exact jr_u hx hb hr hlocks hf hP hS dX12_foldFor_186
  · refine lv_aload_n hx hb dX12_foldFor_20 rfl (lv_at hl 0 rfl) ?_
    refine r_gX12_goes hx hb hts hown hK hP (hts _ kw_798) dX12_foldFor_21 ?_
    refine lv_iload_n hx hb dX12_foldFor_24 rfl (lv_at hl 2 rfl) ?_
    refine ja_zld hx hb hK hP 22 2 rfl rfl hf dX12_foldFor_25 (fun v1 hf => ?_)
    refine jb_eq (tgt := 180) hx hb hf dX12_foldFor_26 (by decide) (fun hf => ?_) (fun hf => ?_)
    · exact (p_rX12_foldFor_b180 C hap hk12) σ x1 x2 hf H locs ls hP hS (lv_sub hl [0, 1, 2] rfl)
    · refine lv_aload_n hx hb dX12_foldFor_29 rfl (lv_at hl 0 rfl) ?_
      refine r_gX12_to hx hb hts hown hK hP (hts _ kw_770) dX12_foldFor_30 ?_
      refine lv_iload_n hx hb dX12_foldFor_33 rfl (lv_at hl 2 rfl) ?_
      refine ja_ild hx hb hK hP 9 0 rfl rfl hf dX12_foldFor_34 (fun v2 hf => ?_)
      refine lv_iload_n hx hb dX12_foldFor_35 rfl (lv_at hl 1 rfl) ?_
      refine jc_ne (tgt := 180) hx hb hf dX12_foldFor_36 (by decide) (fun hf => ?_) (fun hf => ?_)
      · exact (p_rX12_foldFor_b180 C hap hk12) σ x1 x2 hf H locs ls hP hS (lv_sub hl [0, 1, 2] rfl)
      · refine lv_aload_n hx hb dX12_foldFor_39 rfl (lv_at hl 0 rfl) ?_
        refine jk_i hf (fun res hres => jv_run hx hb hml hown hts hK hN r_hG r_hNW hl.1 (n := 0) (As := []) (rest := []) (c_rX12_isFailed l hap σ res hres) hP (ci := 12) (q0 := 0) rfl rfl rfl kw_974 kw_971 kw_973 kw_28 kw_64 ⟨rfl, rfl⟩ (by decide +kernel) rfl ⟨Nat.le_of_ble_eq_true rfl, Nat.le_of_ble_eq_true rfl⟩ rfl (Nat.le_of_ble_eq_true rfl) dX12_foldFor_40) hS (fun v3 σ4 H locs hP hS hf => ?_)
        refine jb_ne (tgt := 180) hx hb hf dX12_foldFor_43 (by decide) (fun hf => ?_) (fun hf => ?_)
        · exact (p_rX12_foldFor_b180 C hap hk12) σ4 x1 x2 hf H locs ls hP hS (lv_sub hl [0, 1, 2] rfl)
        · refine lv_aload_n hx hb dX12_foldFor_46 rfl (lv_at hl 0 rfl) ?_
          refine r_gX12_messages hx hb hts hown hK hP (hts _ kw_799) dX12_foldFor_47 ?_
          refine lv_iload_n hx hb dX12_foldFor_50 rfl (lv_at hl 2 rfl) ?_
          refine ja_lld hx hb hK hP 23 1 rfl rfl hf dX12_foldFor_51 (fun v5 hf => ?_)
          refine lv_lstore_n (lv' := [(3, .long v5), (0, .ref (ad 0)), (1, .int x1), (2, .int x2)]) hx hb dX12_foldFor_52 rfl hl (by decide) rfl (fun ls hl => ?_)
          refine lv_aload_n hx hb dX12_foldFor_53 rfl (lv_at hl 1 rfl) ?_
          refine r_gX12_many hx hb hts hown hK hP (hts _ kw_797) dX12_foldFor_54 ?_
          refine jb_eq (tgt := 68) hx hb hf dX12_foldFor_57 (by decide) (fun hf => ?_) (fun hf => ?_)
          · exact (p_rX12_foldFor_b68 C hap hk12) σ4 x1 x2 v5 hf H locs ls hP hS (lv_sub hl [1, 2, 3, 0] rfl)
          · refine lv_aload_n hx hb dX12_foldFor_60 rfl (lv_at hl 1 rfl) ?_
            refine r_gX12_fold hx hb hts hown hK hP (hts _ kw_773) dX12_foldFor_61 ?_
            refine lv_iconst (v := 3) hx hb dX12_foldFor_64 (by decide) ?_
            refine jc_ne (tgt := 76) hx hb hf dX12_foldFor_65 (by decide) (fun hf => ?_) (fun hf => ?_)
            · refine lv_aload_n hx hb dX12_foldFor_76 rfl (lv_at hl 1 rfl) ?_
              refine r_gX12_fold hx hb hts hown hK hP (hts _ kw_773) dX12_foldFor_77 ?_
              refine jb_ne (tgt := 117) hx hb hf dX12_foldFor_80 (by decide) (fun hf => ?_) (fun hf => ?_)
              · refine lv_aload_n hx hb dX12_foldFor_117 rfl (lv_at hl 1 rfl) ?_
                refine r_gX12_fold hx hb hts hown hK hP (hts _ kw_773) dX12_foldFor_118 ?_
                refine lv_iconst (v := 1) hx hb dX12_foldFor_121 (by decide) ?_
                refine jc_ne (tgt := 149) hx hb hf dX12_foldFor_122 (by decide) (fun hf => ?_) (fun hf => ?_)
                · refine lv_aload_n hx hb dX12_foldFor_149 rfl (lv_at hl 1 rfl) ?_
                  refine lv_lload_n hx hb dX12_foldFor_150 rfl (lv_at hl 0 rfl) ?_
                  refine lv_aload_n hx hb dX12_foldFor_151 rfl (lv_at hl 1 rfl) ?_
                  refine r_gX12_folded hx hb hts hown hK hP (hts _ kw_796) dX12_foldFor_152 ?_
                  refine jl_le (tgt := 163) hx hb hf dX12_foldFor_155 dX12_foldFor_156 (by decide) (fun hf => ?_) (fun hf => ?_)
                  · refine lv_aload_n hx hb dX12_foldFor_163 rfl (lv_at hl 1 rfl) ?_
                    refine r_gX12_folded hx hb hts hown hK hP (hts _ kw_796) dX12_foldFor_164 ?_
                    exact (p_rX12_foldFor_b167 C hap hk12) σ4 x1 x2 (rg_L σ4 2) hf H locs ls hP hS (lv_sub hl [1, 2, 3] rfl)
                  · refine lv_lload_n hx hb dX12_foldFor_159 rfl (lv_at hl 0 rfl) ?_
                    refine lv_goto (tgt := 167) hx hb dX12_foldFor_160 (by decide) ?_
                    exact (p_rX12_foldFor_b167 C hap hk12) σ4 x1 x2 v5 hf H locs ls hP hS (lv_sub hl [1, 2, 3] rfl)
                · refine lv_aload_n hx hb dX12_foldFor_125 rfl (lv_at hl 1 rfl) ?_
                  refine lv_lload_n hx hb dX12_foldFor_126 rfl (lv_at hl 0 rfl) ?_
                  refine lv_aload_n hx hb dX12_foldFor_127 rfl (lv_at hl 1 rfl) ?_
                  refine r_gX12_folded hx hb hts hown hK hP (hts _ kw_796) dX12_foldFor_128 ?_
                  refine jl_ge (tgt := 139) hx hb hf dX12_foldFor_131 dX12_foldFor_132 (by decide) (fun hf => ?_) (fun hf => ?_)
                  · refine lv_aload_n hx hb dX12_foldFor_139 rfl (lv_at hl 1 rfl) ?_
                    refine r_gX12_folded hx hb hts hown hK hP (hts _ kw_796) dX12_foldFor_140 ?_
                    exact (p_rX12_foldFor_b143 C hap hk12) σ4 x1 x2 (rg_L σ4 2) hf H locs ls hP hS (lv_sub hl [1, 2, 3] rfl)
                  · refine lv_lload_n hx hb dX12_foldFor_135 rfl (lv_at hl 0 rfl) ?_
                    refine lv_goto (tgt := 143) hx hb dX12_foldFor_136 (by decide) ?_
                    exact (p_rX12_foldFor_b143 C hap hk12) σ4 x1 x2 v5 hf H locs ls hP hS (lv_sub hl [1, 2, 3] rfl)
              · refine lv_aload_n hx hb dX12_foldFor_83 rfl (lv_at hl 1 rfl) ?_
                refine lv_aload_n hx hb dX12_foldFor_84 rfl (lv_at hl 1 rfl) ?_
                refine r_gX12_folded hx hb hts hown hK hP (hts _ kw_796) dX12_foldFor_85 ?_
                refine lv_lload_n hx hb dX12_foldFor_88 rfl (lv_at hl 0 rfl) ?_
                refine jk_i hf (fun res hres => jv_run hx hb hml hown hts hK hN r_hG r_hNW hl.1 (n := 2) (As := [.long (rg_L σ4 2), .long v5]) (rest := []) (c_rX12_isOver l hap σ4 (rg_L σ4 2) v5 res hres) hP (ci := 12) (q0 := 0) rfl rfl rfl kw_1054 kw_1051 kw_1053 kw_48 kw_64 ⟨rfl, rfl⟩ (by decide +kernel) rfl ⟨Nat.le_of_ble_eq_true rfl, Nat.le_of_ble_eq_true rfl⟩ rfl (Nat.le_of_ble_eq_true rfl) dX12_foldFor_89) hS (fun v6 σ7 H locs hP hS hf => ?_)
                refine jb_eq (tgt := 104) hx hb hf dX12_foldFor_92 (by decide) (fun hf => ?_) (fun hf => ?_)
                · exact (p_rX12_foldFor_b104 C hap hk12) σ7 x1 x2 v5 hf H locs ls hP hS (lv_sub hl [1, 2, 3, 0] rfl)
                · refine lv_aload_n hx hb dX12_foldFor_95 rfl (lv_at hl 1 rfl) ?_
                  refine lv_iconst (v := 3) hx hb dX12_foldFor_96 (by decide) ?_
                  refine lv_bipush (v := 7) hx hb dX12_foldFor_97 (by decide) ?_
                  refine lv_iload_n hx hb dX12_foldFor_99 rfl (lv_at hl 2 rfl) ?_
                  refine lv_iconst (v := (-1)) hx hb dX12_foldFor_100 (by decide) ?_
                  refine jk_u hf (fun res hres => jv_run hx hb hml hown hts hK hN r_hG r_hNW hl.1 (n := 4) (As := [.int 3, .int 7, .int x1, .int (-1)]) (rest := []) (c_rX12_note l hap σ7 3 7 x1 (-1) res hres) hP (ci := 12) (q0 := 0) rfl rfl rfl kw_1014 kw_1011 kw_1013 kw_38 kw_64 ⟨rfl, rfl⟩ (by decide +kernel) rfl ⟨Nat.le_of_ble_eq_true rfl, Nat.le_of_ble_eq_true rfl⟩ rfl (Nat.le_of_ble_eq_true rfl) dX12_foldFor_101) hS (fun σ9 H locs hP hS hf => ?_)
                  exact (p_rX12_foldFor_b104 C hap hk12) σ9 x1 x2 v5 hf H locs ls hP hS (lv_sub hl [1, 2, 3, 0] rfl)
            · exact (p_rX12_foldFor_b68 C hap hk12) σ4 x1 x2 v5 hf H locs ls hP hS (lv_sub hl [1, 2, 3, 0] rfl)
def f_rX12_foldFor_b12 : RS → Int32 → Int32 → Option (RS) := kn_fix (fun _ _ _ => none) (s_rX12_foldFor_b12) FU
theorem q_rX12_foldFor_b12 {p : Program} {l : Launch} {e : Env} {s : State} {m : MethodId} {args : Array Value} {below : List Frame} {meth : Method} {c : Code} {dC : Nat → ClassId} {dI : Nat → Nat → Nat} {kA : Nat → ClassId} {ad : Nat → Nat} (C : jxc cX12_foldFor none 5 RX12 p s m args meth c dC dI kA) (hap : jw_ap 32 ad) {res : RS} : G_rX12_foldFor_b12 p l e s m args below meth c dC dI kA ad res (f_rX12_foldFor_b12) := kn_fix_ind (G := fun F => G_rX12_foldFor_b12 p l e s m args below meth c dC dI kA ad res F) (fun _ _ _ hf => by cases hf) (fun k12 hk12 => p_rX12_foldFor_b12 C hap hk12) FU
def s_rX12_foldFor (σ : RS) (x1 : Int32) : Option (RS) := kn_v (rs_L σ 2 0) (fun σ1 => kn_v (rs_I σ1 14 0) (fun σ2 => f_rX12_foldFor_b12 σ2 x1 0))
set_option maxRecDepth 100000 in
set_option maxHeartbeats 4000000 in
theorem p_rX12_foldFor {p : Program} {l : Launch} {e : Env} {s : State} {m : MethodId} {args : Array Value} {below : List Frame} {meth : Method} {c : Code} {dC : Nat → ClassId} {dI : Nat → Nat → Nat} {kA : Nat → ClassId} {ad : Nat → Nat} (C : jxc cX12_foldFor none 5 RX12 p s m args meth c dC dI kA) (hap : jw_ap 32 ad) {res : RS} : G_rX12_foldFor p l e s m args below meth c dC dI kA ad res (s_rX12_foldFor) := by
  obtain ⟨hx, hb, hml, hown, hts, hr, hlocks, hK, hN⟩ := id C
  intro σ x1 hf H locs ls hP hS hl
  unfold s_rX12_foldFor at hf
  refine lv_aload_n hx hb dX12_foldFor_0 rfl (lv_at hl 0 rfl) ?_
  refine lv_lconst (v := 0) hx hb dX12_foldFor_1 (by decide) ?_
  refine r_pX12_folded hx hb hts hown hK hap hP hS hf (hts _ kw_796) dX12_foldFor_2 (fun σ1 H locs hP hS hf => ?_)
  refine lv_aload_n hx hb dX12_foldFor_5 rfl (lv_at hl 0 rfl) ?_
  refine lv_iconst (v := 0) hx hb dX12_foldFor_6 (by decide) ?_
  refine r_pX12_many hx hb hts hown hK hap hP hS hf (hts _ kw_797) dX12_foldFor_7 (fun σ2 H locs hP hS hf => ?_)
  refine lv_iconst (v := 0) hx hb dX12_foldFor_10 (by decide) ?_
  refine lv_istore_n (lv' := [(2, .int 0), (0, .ref (ad 0)), (1, .int x1)]) hx hb dX12_foldFor_11 rfl hl (by decide) rfl (fun ls hl => ?_)
  exact (q_rX12_foldFor_b12 C hap) σ2 x1 0 hf H locs ls hP hS (lv_sub hl [1, 2, 0] rfl)
theorem c_rX12_foldFor (l : Launch) {dC : Nat → ClassId} {dI : Nat → Nat → Nat} {kA : Nat → ClassId} {ad : Nat → Nat} (hap : jw_ap 32 ad) (σ : RS) (x1 : Int32) (res : RS) (hf : s_rX12_foldFor σ x1 = some res) : jm_u l KW NW (dC, dI) vwCl (jtys kA) (jw_A 32 ad) (r_w kA ad) yX12_foldFor cX12_foldFor 5 (rm_rX12_foldFor) [.ref (ad 0), .int x1] σ res := jm_u_of (by decide) (Nat.le_of_ble_eq_true rfl) (fun p e s m below meth c C hP hS ls hl => p_rX12_foldFor C hap σ x1 hf s.heap [] ls hP hS hl)
