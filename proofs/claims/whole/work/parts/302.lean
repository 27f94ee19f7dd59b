theorem dX12_isReached_0 : decode cX12_isReached 0 = .ok (.aload_n 0, 1) := by decide +kernel
theorem dX12_isReached_1 : decode cX12_isReached 1 = .ok (.getfield 29, 3) := by decide +kernel
theorem dX12_isReached_4 : decode cX12_isReached 4 = .ok (.iload_n 1, 1) := by decide +kernel
theorem dX12_isReached_5 : decode cX12_isReached 5 = .ok (.baload, 1) := by decide +kernel
theorem dX12_isReached_6 : decode cX12_isReached 6 = .ok (.istore_n 2, 1) := by decide +kernel
theorem dX12_isReached_7 : decode cX12_isReached 7 = .ok (.iconst 0, 1) := by decide +kernel
theorem dX12_isReached_8 : decode cX12_isReached 8 = .ok (.istore_n 3, 1) := by decide +kernel
theorem dX12_isReached_9 : decode cX12_isReached 9 = .ok (.iload_n 3, 1) := by decide +kernel
theorem dX12_isReached_10 : decode cX12_isReached 10 = .ok (.aload_n 0, 1) := by decide +kernel
theorem dX12_isReached_11 : decode cX12_isReached 11 = .ok (.getfield 119, 3) := by decide +kernel
theorem dX12_isReached_14 : decode cX12_isReached 14 = .ok (.if_icmp .ge 38, 3) := by decide +kernel
theorem dX12_isReached_17 : decode cX12_isReached 17 = .ok (.iload_n 2, 1) := by decide +kernel
theorem dX12_isReached_18 : decode cX12_isReached 18 = .ok (.ifCond .ne 22, 3) := by decide +kernel
theorem dX12_isReached_21 : decode cX12_isReached 21 = .ok (.aload_n 0, 1) := by decide +kernel
theorem dX12_isReached_22 : decode cX12_isReached 22 = .ok (.getfield 75, 3) := by decide +kernel
theorem dX12_isReached_25 : decode cX12_isReached 25 = .ok (.iload_n 3, 1) := by decide +kernel
theorem dX12_isReached_26 : decode cX12_isReached 26 = .ok (.baload, 1) := by decide +kernel
theorem dX12_isReached_27 : decode cX12_isReached 27 = .ok (.ifCond .eq 17, 3) := by decide +kernel
theorem dX12_isReached_30 : decode cX12_isReached 30 = .ok (.aload_n 0, 1) := by decide +kernel
theorem dX12_isReached_31 : decode cX12_isReached 31 = .ok (.getfield 36, 3) := by decide +kernel
theorem dX12_isReached_34 : decode cX12_isReached 34 = .ok (.iload_n 3, 1) := by decide +kernel
theorem dX12_isReached_35 : decode cX12_isReached 35 = .ok (.iaload, 1) := by decide +kernel
theorem dX12_isReached_36 : decode cX12_isReached 36 = .ok (.iload_n 1, 1) := by decide +kernel
theorem dX12_isReached_37 : decode cX12_isReached 37 = .ok (.if_icmp .ne 7, 3) := by decide +kernel
theorem dX12_isReached_40 : decode cX12_isReached 40 = .ok (.iconst 1, 1) := by decide +kernel
theorem dX12_isReached_41 : decode cX12_isReached 41 = .ok (.goto 4, 3) := by decide +kernel
theorem dX12_isReached_44 : decode cX12_isReached 44 = .ok (.iconst 0, 1) := by decide +kernel
theorem dX12_isReached_45 : decode cX12_isReached 45 = .ok (.istore_n 2, 1) := by decide +kernel
theorem dX12_isReached_46 : decode cX12_isReached 46 = .ok (.iinc 3 1, 3) := by decide +kernel
theorem dX12_isReached_49 : decode cX12_isReached 49 = .ok (.goto (-40), 3) := by decide +kernel
theorem dX12_isReached_52 : decode cX12_isReached 52 = .ok (.iload_n 2, 1) := by decide +kernel
theorem dX12_isReached_53 : decode cX12_isReached 53 = .ok (.ireturn, 1) := by decide +kernel
theorem dX12_remember_0 : decode cX12_remember 0 = .ok (.iconst 0, 1) := by decide +kernel
theorem dX12_remember_1 : decode cX12_remember 1 = .ok (.istore_n 1, 1) := by decide +kernel
theorem dX12_remember_2 : decode cX12_remember 2 = .ok (.iload_n 1, 1) := by decide +kernel
theorem dX12_remember_3 : decode cX12_remember 3 = .ok (.bipush 36, 2) := by decide +kernel
theorem dX12_remember_5 : decode cX12_remember 5 = .ok (.if_icmp .ge 21, 3) := by decide +kernel
theorem dX12_remember_8 : decode cX12_remember 8 = .ok (.aload_n 0, 1) := by decide +kernel
theorem dX12_remember_9 : decode cX12_remember 9 = .ok (.getfield 90, 3) := by decide +kernel
theorem dX12_remember_12 : decode cX12_remember 12 = .ok (.iload_n 1, 1) := by decide +kernel
theorem dX12_remember_13 : decode cX12_remember 13 = .ok (.aload_n 0, 1) := by decide +kernel
theorem dX12_remember_14 : decode cX12_remember 14 = .ok (.getfield 26, 3) := by decide +kernel
theorem dX12_remember_17 : decode cX12_remember 17 = .ok (.iload_n 1, 1) := by decide +kernel
theorem dX12_remember_18 : decode cX12_remember 18 = .ok (.laload, 1) := by decide +kernel
theorem dX12_remember_19 : decode cX12_remember 19 = .ok (.lastore, 1) := by decide +kernel
theorem dX12_remember_20 : decode cX12_remember 20 = .ok (.iinc 1 1, 3) := by decide +kernel
theorem dX12_remember_23 : decode cX12_remember 23 = .ok (.goto (-21), 3) := by decide +kernel
theorem dX12_remember_26 : decode cX12_remember 26 = .ok (.iconst 0, 1) := by decide +kernel
theorem dX12_remember_27 : decode cX12_remember 27 = .ok (.istore_n 1, 1) := by decide +kernel
theorem dX12_remember_28 : decode cX12_remember 28 = .ok (.iload_n 1, 1) := by decide +kernel
theorem dX12_remember_29 : decode cX12_remember 29 = .ok (.bipush 12, 2) := by decide +kernel
theorem dX12_remember_31 : decode cX12_remember 31 = .ok (.if_icmp .ge 21, 3) := by decide +kernel
theorem dX12_remember_34 : decode cX12_remember 34 = .ok (.aload_n 0, 1) := by decide +kernel
theorem dX12_remember_35 : decode cX12_remember 35 = .ok (.getfield 93, 3) := by decide +kernel
theorem dX12_remember_38 : decode cX12_remember 38 = .ok (.iload_n 1, 1) := by decide +kernel
theorem dX12_remember_39 : decode cX12_remember 39 = .ok (.aload_n 0, 1) := by decide +kernel
theorem dX12_remember_40 : decode cX12_remember 40 = .ok (.getfield 29, 3) := by decide +kernel
theorem dX12_remember_43 : decode cX12_remember 43 = .ok (.iload_n 1, 1) := by decide +kernel
theorem dX12_remember_44 : decode cX12_remember 44 = .ok (.baload, 1) := by decide +kernel
theorem dX12_remember_45 : decode cX12_remember 45 = .ok (.bastore, 1) := by decide +kernel
theorem dX12_remember_46 : decode cX12_remember 46 = .ok (.iinc 1 1, 3) := by decide +kernel
theorem dX12_remember_49 : decode cX12_remember 49 = .ok (.goto (-21), 3) := by decide +kernel
theorem dX12_remember_52 : decode cX12_remember 52 = .ok (.return_, 1) := by decide +kernel
theorem dX12_keep_0 : decode cX12_keep 0 = .ok (.aload_n 0, 1) := by decide +kernel
theorem dX12_keep_1 : decode cX12_keep 1 = .ok (.getfield 128, 3) := by decide +kernel
theorem dX12_keep_4 : decode cX12_keep 4 = .ok (.bipush 6, 2) := by decide +kernel
theorem dX12_keep_6 : decode cX12_keep 6 = .ok (.if_icmp .ne 153, 3) := by decide +kernel
theorem dX12_keep_9 : decode cX12_keep 9 = .ok (.iconst 0, 1) := by decide +kernel
theorem dX12_keep_10 : decode cX12_keep 10 = .ok (.istore 4, 2) := by decide +kernel
theorem dX12_keep_12 : decode cX12_keep 12 = .ok (.iload 4, 2) := by decide +kernel
theorem dX12_keep_14 : decode cX12_keep 14 = .ok (.iconst 1, 1) := by decide +kernel
theorem dX12_keep_15 : decode cX12_keep 15 = .ok (.iadd, 1) := by decide +kernel
theorem dX12_keep_16 : decode cX12_keep 16 = .ok (.bipush 6, 2) := by decide +kernel
theorem dX12_keep_18 : decode cX12_keep 18 = .ok (.if_icmp .ge 131, 3) := by decide +kernel
theorem dX12_keep_21 : decode cX12_keep 21 = .ok (.iconst 0, 1) := by decide +kernel
theorem dX12_keep_22 : decode cX12_keep 22 = .ok (.istore 5, 2) := by decide +kernel
theorem dX12_keep_24 : decode cX12_keep 24 = .ok (.iload 5, 2) := by decide +kernel
theorem dX12_keep_26 : decode cX12_keep 26 = .ok (.bipush 36, 2) := by decide +kernel
theorem dX12_keep_28 : decode cX12_keep 28 = .ok (.if_icmp .ge 38, 3) := by decide +kernel
theorem dX12_keep_31 : decode cX12_keep 31 = .ok (.aload_n 0, 1) := by decide +kernel
theorem dX12_keep_32 : decode cX12_keep 32 = .ok (.getfield 48, 3) := by decide +kernel
theorem dX12_keep_35 : decode cX12_keep 35 = .ok (.bipush 36, 2) := by decide +kernel
theorem dX12_keep_37 : decode cX12_keep 37 = .ok (.iload 4, 2) := by decide +kernel
theorem dX12_keep_39 : decode cX12_keep 39 = .ok (.imul, 1) := by decide +kernel
theorem dX12_keep_40 : decode cX12_keep 40 = .ok (.iload 5, 2) := by decide +kernel
theorem dX12_keep_42 : decode cX12_keep 42 = .ok (.iadd, 1) := by decide +kernel
theorem dX12_keep_43 : decode cX12_keep 43 = .ok (.aload_n 0, 1) := by decide +kernel
theorem dX12_keep_44 : decode cX12_keep 44 = .ok (.getfield 48, 3) := by decide +kernel
theorem dX12_keep_47 : decode cX12_keep 47 = .ok (.bipush 36, 2) := by decide +kernel
theorem dX12_keep_49 : decode cX12_keep 49 = .ok (.iload 4, 2) := by decide +kernel
theorem dX12_keep_51 : decode cX12_keep 51 = .ok (.imul, 1) := by decide +kernel
theorem dX12_keep_52 : decode cX12_keep 52 = .ok (.bipush 36, 2) := by decide +kernel
theorem dX12_keep_54 : decode cX12_keep 54 = .ok (.iadd, 1) := by decide +kernel
theorem dX12_keep_55 : decode cX12_keep 55 = .ok (.iload 5, 2) := by decide +kernel
theorem dX12_keep_57 : decode cX12_keep 57 = .ok (.iadd, 1) := by decide +kernel
theorem dX12_keep_58 : decode cX12_keep 58 = .ok (.laload, 1) := by decide +kernel
theorem dX12_keep_59 : decode cX12_keep 59 = .ok (.lastore, 1) := by decide +kernel
theorem dX12_keep_60 : decode cX12_keep 60 = .ok (.iinc 5 1, 3) := by decide +kernel
theorem dX12_keep_63 : decode cX12_keep 63 = .ok (.goto (-39), 3) := by decide +kernel
theorem dX12_keep_66 : decode cX12_keep 66 = .ok (.iconst 0, 1) := by decide +kernel
theorem dX12_keep_67 : decode cX12_keep 67 = .ok (.istore 5, 2) := by decide +kernel
theorem dX12_keep_69 : decode cX12_keep 69 = .ok (.iload 5, 2) := by decide +kernel
theorem dX12_keep_71 : decode cX12_keep 71 = .ok (.bipush 12, 2) := by decide +kernel
theorem dX12_keep_73 : decode cX12_keep 73 = .ok (.if_icmp .ge 38, 3) := by decide +kernel
theorem dX12_keep_76 : decode cX12_keep 76 = .ok (.aload_n 0, 1) := by decide +kernel
theorem dX12_keep_77 : decode cX12_keep 77 = .ok (.getfield 51, 3) := by decide +kernel
theorem dX12_keep_80 : decode cX12_keep 80 = .ok (.bipush 12, 2) := by decide +kernel
theorem dX12_keep_82 : decode cX12_keep 82 = .ok (.iload 4, 2) := by decide +kernel
theorem dX12_keep_84 : decode cX12_keep 84 = .ok (.imul, 1) := by decide +kernel
theorem dX12_keep_85 : decode cX12_keep 85 = .ok (.iload 5, 2) := by decide +kernel
theorem dX12_keep_87 : decode cX12_keep 87 = .ok (.iadd, 1) := by decide +kernel
theorem dX12_keep_88 : decode cX12_keep 88 = .ok (.aload_n 0, 1) := by decide +kernel
theorem dX12_keep_89 : decode cX12_keep 89 = .ok (.getfield 51, 3) := by decide +kernel
theorem dX12_keep_92 : decode cX12_keep 92 = .ok (.bipush 12, 2) := by decide +kernel
theorem dX12_keep_94 : decode cX12_keep 94 = .ok (.iload 4, 2) := by decide +kernel
theorem dX12_keep_96 : decode cX12_keep 96 = .ok (.imul, 1) := by decide +kernel
theorem dX12_keep_97 : decode cX12_keep 97 = .ok (.bipush 12, 2) := by decide +kernel
theorem dX12_keep_99 : decode cX12_keep 99 = .ok (.iadd, 1) := by decide +kernel
theorem dX12_keep_100 : decode cX12_keep 100 = .ok (.iload 5, 2) := by decide +kernel
theorem dX12_keep_102 : decode cX12_keep 102 = .ok (.iadd, 1) := by decide +kernel
theorem dX12_keep_103 : decode cX12_keep 103 = .ok (.baload, 1) := by decide +kernel
theorem dX12_keep_104 : decode cX12_keep 104 = .ok (.bastore, 1) := by decide +kernel
theorem dX12_keep_105 : decode cX12_keep 105 = .ok (.iinc 5 1, 3) := by decide +kernel
theorem dX12_keep_108 : decode cX12_keep 108 = .ok (.goto (-39), 3) := by decide +kernel
theorem dX12_keep_111 : decode cX12_keep 111 = .ok (.aload_n 0, 1) := by decide +kernel
theorem dX12_keep_112 : decode cX12_keep 112 = .ok (.getfield 54, 3) := by decide +kernel
theorem dX12_keep_115 : decode cX12_keep 115 = .ok (.iload 4, 2) := by decide +kernel
theorem dX12_keep_117 : decode cX12_keep 117 = .ok (.aload_n 0, 1) := by decide +kernel
theorem dX12_keep_118 : decode cX12_keep 118 = .ok (.getfield 54, 3) := by decide +kernel
theorem dX12_keep_121 : decode cX12_keep 121 = .ok (.iload 4, 2) := by decide +kernel
theorem dX12_keep_123 : decode cX12_keep 123 = .ok (.iconst 1, 1) := by decide +kernel
theorem dX12_keep_124 : decode cX12_keep 124 = .ok (.iadd, 1) := by decide +kernel
theorem dX12_keep_125 : decode cX12_keep 125 = .ok (.laload, 1) := by decide +kernel
theorem dX12_keep_126 : decode cX12_keep 126 = .ok (.lastore, 1) := by decide +kernel
theorem dX12_keep_127 : decode cX12_keep 127 = .ok (.aload_n 0, 1) := by decide +kernel
theorem dX12_keep_128 : decode cX12_keep 128 = .ok (.getfield 57, 3) := by decide +kernel
theorem dX12_keep_131 : decode cX12_keep 131 = .ok (.iload 4, 2) := by decide +kernel
theorem dX12_keep_133 : decode cX12_keep 133 = .ok (.aload_n 0, 1) := by decide +kernel
theorem dX12_keep_134 : decode cX12_keep 134 = .ok (.getfield 57, 3) := by decide +kernel
theorem dX12_keep_137 : decode cX12_keep 137 = .ok (.iload 4, 2) := by decide +kernel
theorem dX12_keep_139 : decode cX12_keep 139 = .ok (.iconst 1, 1) := by decide +kernel
theorem dX12_keep_140 : decode cX12_keep 140 = .ok (.iadd, 1) := by decide +kernel
theorem dX12_keep_141 : decode cX12_keep 141 = .ok (.iaload, 1) := by decide +kernel
theorem dX12_keep_142 : decode cX12_keep 142 = .ok (.iastore, 1) := by decide +kernel
theorem dX12_keep_143 : decode cX12_keep 143 = .ok (.iinc 4 1, 3) := by decide +kernel
theorem dX12_keep_146 : decode cX12_keep 146 = .ok (.goto (-134), 3) := by decide +kernel
theorem dX12_keep_149 : decode cX12_keep 149 = .ok (.aload_n 0, 1) := by decide +kernel
theorem dX12_keep_150 : decode cX12_keep 150 = .ok (.dup, 1) := by decide +kernel
theorem dX12_keep_151 : decode cX12_keep 151 = .ok (.getfield 128, 3) := by decide +kernel
theorem dX12_keep_154 : decode cX12_keep 154 = .ok (.iconst 1, 1) := by decide +kernel
theorem dX12_keep_155 : decode cX12_keep 155 = .ok (.isub, 1) := by decide +kernel
theorem dX12_keep_156 : decode cX12_keep 156 = .ok (.putfield 128, 3) := by decide +kernel
theorem dX12_keep_159 : decode cX12_keep 159 = .ok (.iconst 0, 1) := by decide +kernel
theorem dX12_keep_160 : decode cX12_keep 160 = .ok (.istore 4, 2) := by decide +kernel
theorem dX12_keep_162 : decode cX12_keep 162 = .ok (.iload 4, 2) := by decide +kernel
theorem dX12_keep_164 : decode cX12_keep 164 = .ok (.bipush 36, 2) := by decide +kernel
theorem dX12_keep_166 : decode cX12_keep 166 = .ok (.if_icmp .ge 31, 3) := by decide +kernel
theorem dX12_keep_169 : decode cX12_keep 169 = .ok (.aload_n 0, 1) := by decide +kernel
theorem dX12_keep_170 : decode cX12_keep 170 = .ok (.getfield 48, 3) := by decide +kernel
theorem dX12_keep_173 : decode cX12_keep 173 = .ok (.bipush 36, 2) := by decide +kernel
theorem dX12_keep_175 : decode cX12_keep 175 = .ok (.aload_n 0, 1) := by decide +kernel
theorem dX12_keep_176 : decode cX12_keep 176 = .ok (.getfield 128, 3) := by decide +kernel
theorem dX12_keep_179 : decode cX12_keep 179 = .ok (.imul, 1) := by decide +kernel
theorem dX12_keep_180 : decode cX12_keep 180 = .ok (.iload 4, 2) := by decide +kernel
theorem dX12_keep_182 : decode cX12_keep 182 = .ok (.iadd, 1) := by decide +kernel
theorem dX12_keep_183 : decode cX12_keep 183 = .ok (.aload_n 0, 1) := by decide +kernel
theorem dX12_keep_184 : decode cX12_keep 184 = .ok (.getfield 90, 3) := by decide +kernel
theorem dX12_keep_187 : decode cX12_keep 187 = .ok (.iload 4, 2) := by decide +kernel
theorem dX12_keep_189 : decode cX12_keep 189 = .ok (.laload, 1) := by decide +kernel
theorem dX12_keep_190 : decode cX12_keep 190 = .ok (.lastore, 1) := by decide +kernel
theorem dX12_keep_191 : decode cX12_keep 191 = .ok (.iinc 4 1, 3) := by decide +kernel
theorem dX12_keep_194 : decode cX12_keep 194 = .ok (.goto (-32), 3) := by decide +kernel
theorem dX12_keep_197 : decode cX12_keep 197 = .ok (.iconst 0, 1) := by decide +kernel
theorem dX12_keep_198 : decode cX12_keep 198 = .ok (.istore 4, 2) := by decide +kernel
theorem dX12_keep_200 : decode cX12_keep 200 = .ok (.iload 4, 2) := by decide +kernel
theorem dX12_keep_202 : decode cX12_keep 202 = .ok (.bipush 12, 2) := by decide +kernel
theorem dX12_keep_204 : decode cX12_keep 204 = .ok (.if_icmp .ge 31, 3) := by decide +kernel
theorem dX12_keep_207 : decode cX12_keep 207 = .ok (.aload_n 0, 1) := by decide +kernel
theorem dX12_keep_208 : decode cX12_keep 208 = .ok (.getfield 51, 3) := by decide +kernel
theorem dX12_keep_211 : decode cX12_keep 211 = .ok (.bipush 12, 2) := by decide +kernel
theorem dX12_keep_213 : decode cX12_keep 213 = .ok (.aload_n 0, 1) := by decide +kernel
theorem dX12_keep_214 : decode cX12_keep 214 = .ok (.getfield 128, 3) := by decide +kernel
theorem dX12_keep_217 : decode cX12_keep 217 = .ok (.imul, 1) := by decide +kernel
theorem dX12_keep_218 : decode cX12_keep 218 = .ok (.iload 4, 2) := by decide +kernel
theorem dX12_keep_220 : decode cX12_keep 220 = .ok (.iadd, 1) := by decide +kernel
theorem dX12_keep_221 : decode cX12_keep 221 = .ok (.aload_n 0, 1) := by decide +kernel
theorem dX12_keep_222 : decode cX12_keep 222 = .ok (.getfield 93, 3) := by decide +kernel
theorem dX12_keep_225 : decode cX12_keep 225 = .ok (.iload 4, 2) := by decide +kernel
theorem dX12_keep_227 : decode cX12_keep 227 = .ok (.baload, 1) := by decide +kernel
theorem dX12_keep_228 : decode cX12_keep 228 = .ok (.bastore, 1) := by decide +kernel
theorem dX12_keep_229 : decode cX12_keep 229 = .ok (.iinc 4 1, 3) := by decide +kernel
theorem dX12_keep_232 : decode cX12_keep 232 = .ok (.goto (-32), 3) := by decide +kernel
theorem dX12_keep_235 : decode cX12_keep 235 = .ok (.aload_n 0, 1) := by decide +kernel
theorem dX12_keep_236 : decode cX12_keep 236 = .ok (.getfield 54, 3) := by decide +kernel
theorem dX12_keep_239 : decode cX12_keep 239 = .ok (.aload_n 0, 1) := by decide +kernel
theorem dX12_keep_240 : decode cX12_keep 240 = .ok (.getfield 128, 3) := by decide +kernel
theorem dX12_keep_243 : decode cX12_keep 243 = .ok (.lload_n 1, 1) := by decide +kernel
theorem dX12_keep_244 : decode cX12_keep 244 = .ok (.lastore, 1) := by decide +kernel
theorem dX12_keep_245 : decode cX12_keep 245 = .ok (.aload_n 0, 1) := by decide +kernel
theorem dX12_keep_246 : decode cX12_keep 246 = .ok (.getfield 57, 3) := by decide +kernel
theorem dX12_keep_249 : decode cX12_keep 249 = .ok (.aload_n 0, 1) := by decide +kernel
theorem dX12_keep_250 : decode cX12_keep 250 = .ok (.getfield 128, 3) := by decide +kernel
theorem dX12_keep_253 : decode cX12_keep 253 = .ok (.iload_n 3, 1) := by decide +kernel
theorem dX12_keep_254 : decode cX12_keep 254 = .ok (.iastore, 1) := by decide +kernel
theorem dX12_keep_255 : decode cX12_keep 255 = .ok (.aload_n 0, 1) := by decide +kernel
theorem dX12_keep_256 : decode cX12_keep 256 = .ok (.dup, 1) := by decide +kernel
theorem dX12_keep_257 : decode cX12_keep 257 = .ok (.getfield 128, 3) := by decide +kernel
theorem dX12_keep_260 : decode cX12_keep 260 = .ok (.iconst 1, 1) := by decide +kernel
theorem dX12_keep_261 : decode cX12_keep 261 = .ok (.iadd, 1) := by decide +kernel
theorem dX12_keep_262 : decode cX12_keep 262 = .ok (.putfield 128, 3) := by decide +kernel
theorem dX12_keep_265 : decode cX12_keep 265 = .ok (.return_, 1) := by decide +kernel
def rm_rX12_isReached : Room := { frames := 0, cells := 0, slots := 0, locals := 0 }
def G_rX12_isReached_b45 (p : Program) (l : Launch) (e : Env) (s : State) (m : MethodId) (args : Array Value) (below : List Frame) (meth : Method) (c : Code) (dC : Nat → ClassId) (dI : Nat → Nat → Nat) (kA : Nat → ClassId) (ad : Nat → Nat) (res : Int32 × RS) (F : RS → Int32 → Int32 → Int32 → Option (Int32 × RS)) : Prop := ∀ (σ : RS) (x1 : Int32) (x3 : Int32) (s0 : Int32), F σ x1 x3 s0 = some res → ∀ (H : Heap) (locs : List Loc) (ls : Array Slot), va_P (dC, dI) vwCl (r_w kA ad σ) H → va_S (jw_A 32 ad) s.heap H locs → lv_has ls 4 [(0, .ref (ad 0)), (1, .int x1), (3, .int x3)] → W p l e rm_rX12_isReached s m args below meth c H locs 0 0 (r_Qi below dC dI kA ad args s res) (F0 m 45 ls [.int s0])
def G_rX12_isReached_b40 (p : Program) (l : Launch) (e : Env) (s : State) (m : MethodId) (args : Array Value) (below : List Frame) (meth : Method) (c : Code) (dC : Nat → ClassId) (dI : Nat → Nat → Nat) (kA : Nat → ClassId) (ad : Nat → Nat) (res : Int32 × RS) (F : RS → Int32 → Int32 → Option (Int32 × RS)) : Prop := ∀ (σ : RS) (x1 : Int32) (x3 : Int32), F σ x1 x3 = some res → ∀ (H : Heap) (locs : List Loc) (ls : Array Slot), va_P (dC, dI) vwCl (r_w kA ad σ) H → va_S (jw_A 32 ad) s.heap H locs → lv_has ls 4 [(0, .ref (ad 0)), (1, .int x1), (3, .int x3)] → W p l e rm_rX12_isReached s m args below meth c H locs 0 0 (r_Qi below dC dI kA ad args s res) (F0 m 40 ls [])
def G_rX12_isReached_b44 (p : Program) (l : Launch) (e : Env) (s : State) (m : MethodId) (args : Array Value) (below : List Frame) (meth : Method) (c : Code) (dC : Nat → ClassId) (dI : Nat → Nat → Nat) (kA : Nat → ClassId) (ad : Nat → Nat) (res : Int32 × RS) (F : RS → Int32 → Int32 → Option (Int32 × RS)) : Prop := ∀ (σ : RS) (x1 : Int32) (x3 : Int32), F σ x1 x3 = some res → ∀ (H : Heap) (locs : List Loc) (ls : Array Slot), va_P (dC, dI) vwCl (r_w kA ad σ) H → va_S (jw_A 32 ad) s.heap H locs → lv_has ls 4 [(0, .ref (ad 0)), (1, .int x1), (3, .int x3)] → W p l e rm_rX12_isReached s m args below meth c H locs 0 0 (r_Qi below dC dI kA ad args s res) (F0 m 44 ls [])
def G_rX12_isReached_b9 (p : Program) (l : Launch) (e : Env) (s : State) (m : MethodId) (args : Array Value) (below : List Frame) (meth : Method) (c : Code) (dC : Nat → ClassId) (dI : Nat → Nat → Nat) (kA : Nat → ClassId) (ad : Nat → Nat) (res : Int32 × RS) (F : RS → Int32 → Int32 → Int32 → Option (Int32 × RS)) : Prop := ∀ (σ : RS) (x1 : Int32) (x2 : Int32) (x3 : Int32), F σ x1 x2 x3 = some res → ∀ (H : Heap) (locs : List Loc) (ls : Array Slot), va_P (dC, dI) vwCl (r_w kA ad σ) H → va_S (jw_A 32 ad) s.heap H locs → lv_has ls 4 [(0, .ref (ad 0)), (1, .int x1), (2, .int x2), (3, .int x3)] → W p l e rm_rX12_isReached s m args below meth c H locs 0 0 (r_Qi below dC dI kA ad args s res) (F0 m 9 ls [])
def G_rX12_isReached (p : Program) (l : Launch) (e : Env) (s : State) (m : MethodId) (args : Array Value) (below : List Frame) (meth : Method) (c : Code) (dC : Nat → ClassId) (dI : Nat → Nat → Nat) (kA : Nat → ClassId) (ad : Nat → Nat) (res : Int32 × RS) (F : RS → Int32 → Option (Int32 × RS)) : Prop := ∀ (σ : RS) (x1 : Int32), F σ x1 = some res → ∀ (H : Heap) (locs : List Loc) (ls : Array Slot), va_P (dC, dI) vwCl (r_w kA ad σ) H → va_S (jw_A 32 ad) s.heap H locs → lv_has ls 4 [(0, .ref (ad 0)), (1, .int x1)] → W p l e rm_rX12_isReached s m args below meth c H locs 0 0 (r_Qi below dC dI kA ad args s res) (F0 m 0 ls [])
def s_rX12_isReached_b45 (k9 : RS → Int32 → Int32 → Int32 → Option (Int32 × RS)) (σ : RS) (x1 : Int32) (x3 : Int32) (s0 : Int32) : Option (Int32 × RS) := kn_v (x3 + 1) (fun v1 => k9 σ x1 s0 v1)
set_option maxRecDepth 100000 in
set_option maxHeartbeats 4000000 in
theorem p_rX12_isReached_b45 {p : Program} {l : Launch} {e : Env} {s : State} {m : MethodId} {args : Array Value} {below : List Frame} {meth : Method} {c : Code} {dC : Nat → ClassId} {dI : Nat → Nat → Nat} {kA : Nat → ClassId} {ad : Nat → Nat} (C : jxc cX12_isReached (some .boolean) 4 RX12 p s m args meth c dC dI kA) (hap : jw_ap 32 ad) {res : Int32 × RS} {k9 : RS → Int32 → Int32 → Int32 → Option (Int32 × RS)} (hk9 : G_rX12_isReached_b9 p l e s m args below meth c dC dI kA ad res k9) : G_rX12_isReached_b45 p l e s m args below meth c dC dI kA ad res (s_rX12_isReached_b45 k9) := by
  obtain ⟨hx, hb, hml, hown, hts, hr, hlocks, hK, hN⟩ := id C
  intro σ x1 x3 s0 hf H locs ls hP hS hl
  unfold s_rX12_isReached_b45 at hf
  refine lv_istore_n (lv' := [(2, .int s0), (0, .ref (ad 0)), (1, .int x1), (3, .int x3)]) hx hb dX12_isReached_45 rfl hl (by decide) rfl (fun ls hl => ?_)
  obtain ⟨v1, e_v1, hf⟩ := kn_v_e hf
  refine lv_iinc (v := v1) (lv' := [(3, .int v1), (2, .int s0), (0, .ref (ad 0)), (1, .int x1)]) hx hb dX12_isReached_46 hl (k := 3) rfl e_v1 (by decide) rfl (fun ls hl => ?_)
  refine lv_goto (tgt := 9) hx hb dX12_isReached_49 (by decide) ?_
  exact hk9 σ x1 s0 v1 hf H locs ls hP hS (lv_sub hl [2, 3, 1, 0] rfl)
def s_rX12_isReached_b40 (k9 : RS → Int32 → Int32 → Int32 → Option (Int32 × RS)) (σ : RS) (x1 : Int32) (x3 : Int32) : Option (Int32 × RS) := s_rX12_isReached_b45 k9 σ x1 x3 1
set_option maxRecDepth 100000 in
set_option maxHeartbeats 4000000 in
theorem p_rX12_isReached_b40 {p : Program} {l : Launch} {e : Env} {s : State} {m : MethodId} {args : Array Value} {below : List Frame} {meth : Method} {c : Code} {dC : Nat → ClassId} {dI : Nat → Nat → Nat} {kA : Nat → ClassId} {ad : Nat → Nat} (C : jxc cX12_isReached (some .boolean) 4 RX12 p s m args meth c dC dI kA) (hap : jw_ap 32 ad) {res : Int32 × RS} {k9 : RS → Int32 → Int32 → Int32 → Option (Int32 × RS)} (hk9 : G_rX12_isReached_b9 p l e s m args below meth c dC dI kA ad res k9) : G_rX12_isReached_b40 p l e s m args below meth c dC dI kA ad res (s_rX12_isReached_b40 k9) := by
  obtain ⟨hx, hb, hml, hown, hts, hr, hlocks, hK, hN⟩ := id C
  intro σ x1 x3 hf H locs ls hP hS hl
  unfold s_rX12_isReached_b40 at hf
  refine lv_iconst (v := 1) hx hb dX12_isReached_40 (by decide) ?_
  refine lv_goto (tgt := 45) hx hb dX12_isReached_41 (by decide) ?_
  exact (p_rX12_isReached_b45 C hap hk9) σ x1 x3 1 hf H locs ls hP hS (lv_sub hl [0, 1, 2] rfl)
def s_rX12_isReached_b44 (k9 : RS → Int32 → Int32 → Int32 → Option (Int32 × RS)) (σ : RS) (x1 : Int32) (x3 : Int32) : Option (Int32 × RS) := s_rX12_isReached_b45 k9 σ x1 x3 0
set_option maxRecDepth 100000 in
set_option maxHeartbeats 4000000 in
theorem p_rX12_isReached_b44 {p : Program} {l : Launch} {e : Env} {s : State} {m : MethodId} {args : Array Value} {below : List Frame} {meth : Method} {c : Code} {dC : Nat → ClassId} {dI : Nat → Nat → Nat} {kA : Nat → ClassId} {ad : Nat → Nat} (C : jxc cX12_isReached (some .boolean) 4 RX12 p s m args meth c dC dI kA) (hap : jw_ap 32 ad) {res : Int32 × RS} {k9 : RS → Int32 → Int32 → Int32 → Option (Int32 × RS)} (hk9 : G_rX12_isReached_b9 p l e s m args below meth c dC dI kA ad res k9) : G_rX12_isReached_b44 p l e s m args below meth c dC dI kA ad res (s_rX12_isReached_b44 k9) := by
  obtain ⟨hx, hb, hml, hown, hts, hr, hlocks, hK, hN⟩ := id C
  intro σ x1 x3 hf H locs ls hP hS hl
  unfold s_rX12_isReached_b44 at hf
  refine lv_iconst (v := 0) hx hb dX12_isReached_44 (by decide) ?_
  exact (p_rX12_isReached_b45 C hap hk9) σ x1 x3 0 hf H locs ls hP hS (lv_sub hl [0, 1, 2] rfl)
def s_rX12_isReached_b9 (k9 : RS → Int32 → Int32 → Int32 → Option (Int32 × RS)) (σ : RS) (x1 : Int32) (x2 : Int32) (x3 : Int32) : Option (Int32 × RS) := if (rg_I σ 2) ≤ x3 then (kn_z x2 (some (x2, σ))) else (if x2 = 0 then (kn_ld (rg_A σ 14) 40 x3 (fun v1 => if v1 = 0 then (s_rX12_isReached_b44 k9 σ x1 x3) else (kn_ld (rg_A σ 6) 40 x3 (fun v2 => if v2 = x1 then (s_rX12_isReached_b40 k9 σ x1 x3) else (s_rX12_isReached_b44 k9 σ x1 x3))))) else (s_rX12_isReached_b40 k9 σ x1 x3))
set_option maxRecDepth 100000 in
set_option maxHeartbeats 4000000 in
theorem p_rX12_isReached_b9 {p : Program} {l : Launch} {e : Env} {s : State} {m : MethodId} {args : Array Value} {below : List Frame} {meth : Method} {c : Code} {dC : Nat → ClassId} {dI : Nat → Nat → Nat} {kA : Nat → ClassId} {ad : Nat → Nat} (C : jxc cX12_isReached (some .boolean) 4 RX12 p s m args meth c dC dI kA) (hap : jw_ap 32 ad) {res : Int32 × RS} {k9 : RS → Int32 → Int32 → Int32 → Option (Int32 × RS)} (hk9 : G_rX12_isReached_b9 p l e s m args below meth c dC dI kA ad res k9) : G_rX12_isReached_b9 p l e s m args below meth c dC dI kA ad res (s_rX12_isReached_b9 k9) := by
  obtain ⟨hx, hb, hml, hown, hts, hr, hlocks, hK, hN⟩ := id C
  intro σ x1 x2 x3 hf H locs ls hP hS hl
  unfold s_rX12_isReached_b9 at hf
  refine lv_iload_n hx hb dX12_isReached_9 rfl (lv_at hl 3 rfl) ?_
  refine lv_aload_n hx hb dX12_isReached_10 rfl (lv_at hl 0 rfl) ?_
  refine r_gX12_arcs hx hb hts hown hK hP (hts _ kw_768) dX12_isReached_11 ?_
  refine jc_ge (tgt := 52) hx hb hf dX12_isReached_14 (by decide) (fun hf => ?_) (fun hf => ?_)
  · refine lv_iload_n hx hb dX12_isReached_52 rfl (lv_at hl 2 rfl) ?_
    exact jr_z hx hb hr hlocks hf hP hS dX12_isReached_53
  · refine lv_iload_n hx hb dX12_isReached_17 rfl (lv_at hl 2 rfl) ?_
    refine jb_ne (tgt := 40) hx hb hf dX12_isReached_18 (by decide) (fun hf => ?_) (fun hf => ?_)
    · exact (p_rX12_isReached_b40 C hap hk9) σ x1 x3 hf H locs ls hP hS (lv_sub hl [0, 1, 3] rfl)
    · refine lv_aload_n hx hb dX12_isReached_21 rfl (lv_at hl 0 rfl) ?_
      refine r_gX12_goes hx hb hts hown hK hP (hts _ kw_798) dX12_isReached_22 ?_
      refine lv_iload_n hx hb dX12_isReached_25 rfl (lv_at hl 3 rfl) ?_
      refine ja_zld hx hb hK hP 22 2 rfl rfl hf dX12_isReached_26 (fun v1 hf => ?_)
      refine jb_eq (tgt := 44) hx hb hf dX12_isReached_27 (by decide) (fun hf => ?_) (fun hf => ?_)
      · exact (p_rX12_isReached_b44 C hap hk9) σ x1 x3 hf H locs ls hP hS (lv_sub hl [0, 1, 3] rfl)
      · refine lv_aload_n hx hb dX12_isReached_30 rfl (lv_at hl 0 rfl) ?_
        refine r_gX12_to hx hb hts hown hK hP (hts _ kw_770) dX12_isReached_31 ?_
        refine lv_iload_n hx hb dX12_isReached_34 rfl (lv_at hl 3 rfl) ?_
        refine ja_ild hx hb hK hP 9 0 rfl rfl hf dX12_isReached_35 (fun v2 hf => ?_)
        refine lv_iload_n hx hb dX12_isReached_36 rfl (lv_at hl 1 rfl) ?_
        refine jc_ne (tgt := 44) hx hb hf dX12_isReached_37 (by decide) (fun hf => ?_) (fun hf => ?_)
        · exact (p_rX12_isReached_b44 C hap hk9) σ x1 x3 hf H locs ls hP hS (lv_sub hl [0, 1, 3] rfl)
        · exact (p_rX12_isReached_b40 C hap hk9) σ x1 x3 hf H locs ls hP hS (lv_sub hl [0, 1, 3] rfl)
def f_rX12_isReached_b9 : RS → Int32 → Int32 → Int32 → Option (Int32 × RS) := kn_fix (fun _ _ _ _ => none) (s_rX12_isReached_b9) FU
theorem q_rX12_isReached_b9 {p : Program} {l : Launch} {e : Env} {s : State} {m : MethodId} {args : Array Value} {below : List Frame} {meth : Method} {c : Code} {dC : Nat → ClassId} {dI : Nat → Nat → Nat} {kA : Nat → ClassId} {ad : Nat → Nat} (C : jxc cX12_isReached (some .boolean) 4 RX12 p s m args meth c dC dI kA) (hap : jw_ap 32 ad) {res : Int32 × RS} : G_rX12_isReached_b9 p l e s m args below meth c dC dI kA ad res (f_rX12_isReached_b9) := kn_fix_ind (G := fun F => G_rX12_isReached_b9 p l e s m args below meth c dC dI kA ad res F) (fun _ _ _ _ hf => by cases hf) (fun k9 hk9 => p_rX12_isReached_b9 C hap hk9) FU
def s_rX12_isReached (σ : RS) (x1 : Int32) : Option (Int32 × RS) := kn_ld (rg_A σ 4) 12 x1 (fun v1 => f_rX12_isReached_b9 σ x1 v1 0)
set_option maxRecDepth 100000 in
set_option maxHeartbeats 4000000 in
theorem p_rX12_isReached {p : Program} {l : Launch} {e : Env} {s : State} {m : MethodId} {args : Array Value} {below : List Frame} {meth : Method} {c : Code} {dC : Nat → ClassId} {dI : Nat → Nat → Nat} {kA : Nat → ClassId} {ad : Nat → Nat} (C : jxc cX12_isReached (some .boolean) 4 RX12 p s m args meth c dC dI kA) (hap : jw_ap 32 ad) {res : Int32 × RS} : G_rX12_isReached p l e s m args below meth c dC dI kA ad res (s_rX12_isReached) := by
  obtain ⟨hx, hb, hml, hown, hts, hr, hlocks, hK, hN⟩ := id C
  intro σ x1 hf H locs ls hP hS hl
  unfold s_rX12_isReached at hf
  refine lv_aload_n hx hb dX12_isReached_0 rfl (lv_at hl 0 rfl) ?_
  refine r_gX12_awake hx hb hts hown hK hP (hts _ kw_767) dX12_isReached_1 ?_
  refine lv_iload_n hx hb dX12_isReached_4 rfl (lv_at hl 1 rfl) ?_
  refine ja_zld hx hb hK hP 7 2 rfl rfl hf dX12_isReached_5 (fun v1 hf => ?_)
  refine lv_istore_n (lv' := [(2, .int v1), (0, .ref (ad 0)), (1, .int x1)]) hx hb dX12_isReached_6 rfl hl (by decide) rfl (fun ls hl => ?_)
  refine lv_iconst (v := 0) hx hb dX12_isReached_7 (by decide) ?_
  refine lv_istore_n (lv' := [(3, .int 0), (2, .int v1), (0, .ref (ad 0)), (1, .int x1)]) hx hb dX12_isReached_8 rfl hl (by decide) rfl (fun ls hl => ?_)
  exact (q_rX12_isReached_b9 C hap) σ x1 v1 0 hf H locs ls hP hS (lv_sub hl [2, 3, 1, 0] rfl)
theorem c_rX12_isReached (l : Launch) {dC : Nat → ClassId} {dI : Nat → Nat → Nat} {kA : Nat → ClassId} {ad : Nat → Nat} (hap : jw_ap 32 ad) (σ : RS) (x1 : Int32) (res : Int32 × RS) (hf : s_rX12_isReached σ x1 = some res) : jm_i l KW NW (dC, dI) vwCl (jtys kA) (jw_A 32 ad) (r_w kA ad) yX12_isReached cX12_isReached 4 .boolean (rm_rX12_isReached) [.ref (ad 0), .int x1] σ res := jm_i_of (by decide) (Nat.le_of_ble_eq_true rfl) (fun p e s m below meth c C hP hS ls hl => p_rX12_isReached C hap σ x1 hf s.heap [] ls hP hS hl)

def rm_rX12_remember : Room := { frames := 0, cells := 0, slots := 0, locals := 0 }
def G_rX12_remember_b28 (p : Program) (l : Launch) (e : Env) (s : State) (m : MethodId) (args : Array Value) (below : List Frame) (meth : Method) (c : Code) (dC : Nat → ClassId) (dI : Nat → Nat → Nat) (kA : Nat → ClassId) (ad : Nat → Nat) (res : RS) (F : RS → Int32 → Option (RS)) : Prop := ∀ (σ : RS) (x1 : Int32), F σ x1 = some res → ∀ (H : Heap) (locs : List Loc) (ls : Array Slot), va_P (dC, dI) vwCl (r_w kA ad σ) H → va_S (jw_A 32 ad) s.heap H locs → lv_has ls 2 [(0, .ref (ad 0)), (1, .int x1)] → W p l e rm_rX12_remember s m args below meth c H locs 0 0 (r_Qu below dC dI kA ad args s res) (F0 m 28 ls [])
def G_rX12_remember_b26 (p : Program) (l : Launch) (e : Env) (s : State) (m : MethodId) (args : Array Value) (below : List Frame) (meth : Method) (c : Code) (dC : Nat → ClassId) (dI : Nat → Nat → Nat) (kA : Nat → ClassId) (ad : Nat → Nat) (res : RS) (F : RS → Option (RS)) : Prop := ∀ (σ : RS), F σ = some res → ∀ (H : Heap) (locs : List Loc) (ls : Array Slot), va_P (dC, dI) vwCl (r_w kA ad σ) H → va_S (jw_A 32 ad) s.heap H locs → lv_has ls 2 [(0, .ref (ad 0))] → W p l e rm_rX12_remember s m args below meth c H locs 0 0 (r_Qu below dC dI kA ad args s res) (F0 m 26 ls [])
def G_rX12_remember_b2 (p : Program) (l : Launch) (e : Env) (s : State) (m : MethodId) (args : Array Value) (below : List Frame) (meth : Method) (c : Code) (dC : Nat → ClassId) (dI : Nat → Nat → Nat) (kA : Nat → ClassId) (ad : Nat → Nat) (res : RS) (F : RS → Int32 → Option (RS)) : Prop := ∀ (σ : RS) (x1 : Int32), F σ x1 = some res → ∀ (H : Heap) (locs : List Loc) (ls : Array Slot), va_P (dC, dI) vwCl (r_w kA ad σ) H → va_S (jw_A 32 ad) s.heap H locs → lv_has ls 2 [(0, .ref (ad 0)), (1, .int x1)] → W p l e rm_rX12_remember s m args below meth c H locs 0 0 (r_Qu below dC dI kA ad args s res) (F0 m 2 ls [])
def G_rX12_remember (p : Program) (l : Launch) (e : Env) (s : State) (m : MethodId) (args : Array Value) (below : List Frame) (meth : Method) (c : Code) (dC : Nat → ClassId) (dI : Nat → Nat → Nat) (kA : Nat → ClassId) (ad : Nat → Nat) (res : RS) (F : RS → Option (RS)) : Prop := ∀ (σ : RS), F σ = some res → ∀ (H : Heap) (locs : List Loc) (ls : Array Slot), va_P (dC, dI) vwCl (r_w kA ad σ) H → va_S (jw_A 32 ad) s.heap H locs → lv_has ls 2 [(0, .ref (ad 0))] → W p l e rm_rX12_remember s m args below meth c H locs 0 0 (r_Qu below dC dI kA ad args s res) (F0 m 0 ls [])
def s_rX12_remember_b28 (k28 : RS → Int32 → Option (RS)) (σ : RS) (x1 : Int32) : Option (RS) := if 12 ≤ x1 then some σ else (kn_ld (rg_A σ 4) 12 x1 (fun v1 => kn_st (rs_A σ 17 (upd (rg_A σ 17) x1.toNatClampNeg (vp_nar .boolean v1))) 12 x1 (fun σ2 => kn_v (x1 + 1) (fun v3 => k28 σ2 v3))))
set_option maxRecDepth 100000 in
set_option maxHeartbeats 4000000 in
theorem p_rX12_remember_b28 {p : Program} {l : Launch} {e : Env} {s : State} {m : MethodId} {args : Array Value} {below : List Frame} {meth : Method} {c : Code} {dC : Nat → ClassId} {dI : Nat → Nat → Nat} {kA : Nat → ClassId} {ad : Nat → Nat} (C : jxc cX12_remember none 2 RX12 p s m args meth c dC dI kA) (hap : jw_ap 32 ad) {res : RS} {k28 : RS → Int32 → Option (RS)} (hk28 : G_rX12_remember_b28 p l e s m args below meth c dC dI kA ad res k28) : G_rX12_remember_b28 p l e s m args below meth c dC dI kA ad res (s_rX12_remember_b28 k28) := by
  obtain ⟨hx, hb, hml, hown, hts, hr, hlocks, hK, hN⟩ := id C
  intro σ x1 hf H locs ls hP hS hl
  unfold s_rX12_remember_b28 at hf
  refine lv_iload_n hx hb dX12_remember_28 rfl (lv_at hl 1 rfl) ?_
  refine lv_bipush (v := 12) hx hb dX12_remember_29 (by decide) ?_
  refine jc_ge (tgt := 52) hx hb hf dX12_remember_31 (by decide) (fun hf => ?_) (fun hf => ?_)
  · exact jr_u hx hb hr hlocks hf hP hS dX12_remember_52
  · refine lv_aload_n hx hb dX12_remember_34 rfl (lv_at hl 0 rfl) ?_
    refine r_gX12_beforeAwake hx hb hts hown hK hP (hts _ kw_807) dX12_remember_35 ?_
    refine lv_iload_n hx hb dX12_remember_38 rfl (lv_at hl 1 rfl) ?_
    refine lv_aload_n hx hb dX12_remember_39 rfl (lv_at hl 0 rfl) ?_
    refine r_gX12_awake hx hb hts hown hK hP (hts _ kw_767) dX12_remember_40 ?_
    refine lv_iload_n hx hb dX12_remember_43 rfl (lv_at hl 1 rfl) ?_
    refine ja_zld hx hb hK hP 7 2 rfl rfl hf dX12_remember_44 (fun v1 hf => ?_)
    refine ja_zst hx hb hK (r_D hap σ) hP hS 28 2 rfl rfl rfl r_sA17 hf dX12_remember_45 (fun σ2 H locs hP hS hf => ?_)
    obtain ⟨v3, e_v3, hf⟩ := kn_v_e hf
    refine lv_iinc (v := v3) (lv' := [(1, .int v3), (0, .ref (ad 0))]) hx hb dX12_remember_46 hl (k := 1) rfl e_v3 (by decide) rfl (fun ls hl => ?_)
    refine lv_goto (tgt := 28) hx hb dX12_remember_49 (by decide) ?_
    exact hk28 σ2 v3 hf H locs ls hP hS (lv_sub hl [1, 0] rfl)
def f_rX12_remember_b28 : RS → Int32 → Option (RS) := kn_fix (fun _ _ => none) (s_rX12_remember_b28) FU
theorem q_rX12_remember_b28 {p : Program} {l : Launch} {e : Env} {s : State} {m : MethodId} {args : Array Value} {below : List Frame} {meth : Method} {c : Code} {dC : Nat → ClassId} {dI : Nat → Nat → Nat} {kA : Nat → ClassId} {ad : Nat → Nat} (C : jxc cX12_remember none 2 RX12 p s m args meth c dC dI kA) (hap : jw_ap 32 ad) {res : RS} : G_rX12_remember_b28 p l e s m args below meth c dC dI kA ad res (f_rX12_remember_b28) := kn_fix_ind (G := fun F => G_rX12_remember_b28 p l e s m args below meth c dC dI kA ad res F) (fun _ _ hf => by cases hf) (fun k28 hk28 => p_rX12_remember_b28 C hap hk28) FU
def s_rX12_remember_b26 (σ : RS) : Option (RS) := f_rX12_remember_b28 σ 0
set_option maxRecDepth 100000 in
set_option maxHeartbeats 4000000 in
theorem p_rX12_remember_b26 {p : Program} {l : Launch} {e : Env} {s : State} {m : MethodId} {args : Array Value} {below : List Frame} {meth : Method} {c : Code} {dC : Nat → ClassId} {dI : Nat → Nat → Nat} {kA : Nat → ClassId} {ad : Nat → Nat} (C : jxc cX12_remember none 2 RX12 p s m args meth c dC dI kA) (hap : jw_ap 32 ad) {res : RS} : G_rX12_remember_b26 p l e s m args below meth c dC dI kA ad res (s_rX12_remember_b26) := by
  obtain ⟨hx, hb, hml, hown, hts, hr, hlocks, hK, hN⟩ := id C
  intro σ hf H locs ls hP hS hl
  unfold s_rX12_remember_b26 at hf
  refine lv_iconst (v := 0) hx hb dX12_remember_26 (by decide) ?_
  refine lv_istore_n (lv' := [(1, .int 0), (0, .ref (ad 0))]) hx hb dX12_remember_27 rfl hl (by decide) rfl (fun ls hl => ?_)
  exact (q_rX12_remember_b28 C hap) σ 0 hf H locs ls hP hS (lv_sub hl [1, 0] rfl)
def s_rX12_remember_b2 (k2 : RS → Int32 → Option (RS)) (σ : RS) (x1 : Int32) : Option (RS) := if 36 ≤ x1 then (s_rX12_remember_b26 σ) else (kn_ld (rg_B σ 1) 36 x1 (fun v1 => kn_st (rs_B σ 9 (vp_updL (rg_B σ 9) x1.toNatClampNeg v1)) 36 x1 (fun σ2 => kn_v (x1 + 1) (fun v3 => k2 σ2 v3))))
set_option maxRecDepth 100000 in
set_option maxHeartbeats 4000000 in
theorem p_rX12_remember_b2 {p : Program} {l : Launch} {e : Env} {s : State} {m : MethodId} {args : Array Value} {below : List Frame} {meth : Method} {c : Code} {dC : Nat → ClassId} {dI : Nat → Nat → Nat} {kA : Nat → ClassId} {ad : Nat → Nat} (C : jxc cX12_remember none 2 RX12 p s m args meth c dC dI kA) (hap : jw_ap 32 ad) {res : RS} {k2 : RS → Int32 → Option (RS)} (hk2 : G_rX12_remember_b2 p l e s m args below meth c dC dI kA ad res k2) : G_rX12_remember_b2 p l e s m args below meth c dC dI kA ad res (s_rX12_remember_b2 k2) := by
  obtain ⟨hx, hb, hml, hown, hts, hr, hlocks, hK, hN⟩ := id C
  intro σ x1 hf H locs ls hP hS hl
  unfold s_rX12_remember_b2 at hf
  refine lv_iload_n hx hb dX12_remember_2 rfl (lv_at hl 1 rfl) ?_
  refine lv_bipush (v := 36) hx hb dX12_remember_3 (by decide) ?_
  refine jc_ge (tgt := 26) hx hb hf dX12_remember_5 (by decide) (fun hf => ?_) (fun hf => ?_)
  · exact (p_rX12_remember_b26 C hap) σ hf H locs ls hP hS (lv_sub hl [0] rfl)
  · refine lv_aload_n hx hb dX12_remember_8 rfl (lv_at hl 0 rfl) ?_
    refine r_gX12_beforeStates hx hb hts hown hK hP (hts _ kw_806) dX12_remember_9 ?_
    refine lv_iload_n hx hb dX12_remember_12 rfl (lv_at hl 1 rfl) ?_
    refine lv_aload_n hx hb dX12_remember_13 rfl (lv_at hl 0 rfl) ?_
    refine r_gX12_states hx hb hts hown hK hP (hts _ kw_766) dX12_remember_14 ?_
    refine lv_iload_n hx hb dX12_remember_17 rfl (lv_at hl 1 rfl) ?_
    refine ja_lld hx hb hK hP 6 1 rfl rfl hf dX12_remember_18 (fun v1 hf => ?_)
    refine ja_lst hx hb hK (r_D hap σ) hP hS 27 1 rfl rfl r_sB9 hf dX12_remember_19 (fun σ2 H locs hP hS hf => ?_)
    obtain ⟨v3, e_v3, hf⟩ := kn_v_e hf
    refine lv_iinc (v := v3) (lv' := [(1, .int v3), (0, .ref (ad 0))]) hx hb dX12_remember_20 hl (k := 1) rfl e_v3 (by decide) rfl (fun ls hl => ?_)
    refine lv_goto (tgt := 2) hx hb dX12_remember_23 (by decide) ?_
    exact hk2 σ2 v3 hf H locs ls hP hS (lv_sub hl [1, 0] rfl)
def f_rX12_remember_b2 : RS → Int32 → Option (RS) := kn_fix (fun _ _ => none) (s_rX12_remember_b2) FU
theorem q_rX12_remember_b2 {p : Program} {l : Launch} {e : Env} {s : State} {m : MethodId} {args : Array Value} {below : List Frame} {meth : Method} {c : Code} {dC : Nat → ClassId} {dI : Nat → Nat → Nat} {kA : Nat → ClassId} {ad : Nat → Nat} (C : jxc cX12_remember none 2 RX12 p s m args meth c dC dI kA) (hap : jw_ap 32 ad) {res : RS} : G_rX12_remember_b2 p l e s m args below meth c dC dI kA ad res (f_rX12_remember_b2) := kn_fix_ind (G := fun F => G_rX12_remember_b2 p l e s m args below meth c dC dI kA ad res F) (fun _ _ hf => by cases hf) (fun k2 hk2 => p_rX12_remember_b2 C hap hk2) FU
def s_rX12_remember (σ : RS) : Option (RS) := f_rX12_remember_b2 σ 0
set_option maxRecDepth 100000 in
set_option maxHeartbeats 4000000 in
theorem p_rX12_remember {p : Program} {l : Launch} {e : Env} {s : State} {m : MethodId} {args : Array Value} {below : List Frame} {meth : Method} {c : Code} {dC : Nat → ClassId} {dI : Nat → Nat → Nat} {kA : Nat → ClassId} {ad : Nat → Nat} (C : jxc cX12_remember none 2 RX12 p s m args meth c dC dI kA) (hap : jw_ap 32 ad) {res : RS} : G_rX12_remember p l e s m args below meth c dC dI kA ad res (s_rX12_remember) := by
  obtain ⟨hx, hb, hml, hown, hts, hr, hlocks, hK, hN⟩ := id C
  intro σ hf H locs ls hP hS hl
  unfold s_rX12_remember at hf
  refine lv_iconst (v := 0) hx hb dX12_remember_0 (by decide) ?_
  refine lv_istore_n (lv' := [(1, .int 0), (0, .ref (ad 0))]) hx hb dX12_remember_1 rfl hl (by decide) rfl (fun ls hl => ?_)
  exact (q_rX12_remember_b2 C hap) σ 0 hf H locs ls hP hS (lv_sub hl [1, 0] rfl)
theorem c_rX12_remember (l : Launch) {dC : Nat → ClassId} {dI : Nat → Nat → Nat} {kA : Nat → ClassId} {ad : Nat → Nat} (hap : jw_ap 32 ad) (σ : RS) (res : RS) (hf : s_rX12_remember σ = some res) : jm_u l KW NW (dC, dI) vwCl (jtys kA) (jw_A 32 ad) (r_w kA ad) yX12_remember cX12_remember 2 (rm_rX12_remember) [.ref (ad 0)] σ res := jm_u_of (by decide) (Nat.le_of_ble_eq_true rfl) (fun p e s m below meth c C hP hS ls hl => p_rX12_remember C hap σ hf s.heap [] ls hP hS hl)

def rm_rX12_keep : Room := { frames := 0, cells := 0, slots := 0, locals := 0 }
def G_rX12_keep_b235 (p : Program) (l : Launch) (e : Env) (s : State) (m : MethodId) (args : Array Value) (below : List Frame) (meth : Method) (c : Code) (dC : Nat → ClassId) (dI : Nat → Nat → Nat) (kA : Nat → ClassId) (ad : Nat → Nat) (res : RS) (F : RS → Int64 → Int32 → Option (RS)) : Prop := ∀ (σ : RS) (x1 : Int64) (x3 : Int32), F σ x1 x3 = some res → ∀ (H : Heap) (locs : List Loc) (ls : Array Slot), va_P (dC, dI) vwCl (r_w kA ad σ) H → va_S (jw_A 32 ad) s.heap H locs → lv_has ls 6 [(0, .ref (ad 0)), (1, .long x1), (3, .int x3)] → W p l e rm_rX12_keep s m args below meth c H locs 0 0 (r_Qu below dC dI kA ad args s res) (F0 m 235 ls [])
def G_rX12_keep_b200 (p : Program) (l : Launch) (e : Env) (s : State) (m : MethodId) (args : Array Value) (below : List Frame) (meth : Method) (c : Code) (dC : Nat → ClassId) (dI : Nat → Nat → Nat) (kA : Nat → ClassId) (ad : Nat → Nat) (res : RS) (F : RS → Int64 → Int32 → Int32 → Option (RS)) : Prop := ∀ (σ : RS) (x1 : Int64) (x3 : Int32) (x4 : Int32), F σ x1 x3 x4 = some res → ∀ (H : Heap) (locs : List Loc) (ls : Array Slot), va_P (dC, dI) vwCl (r_w kA ad σ) H → va_S (jw_A 32 ad) s.heap H locs → lv_has ls 6 [(0, .ref (ad 0)), (1, .long x1), (3, .int x3), (4, .int x4)] → W p l e rm_rX12_keep s m args below meth c H locs 0 0 (r_Qu below dC dI kA ad args s res) (F0 m 200 ls [])
def G_rX12_keep_b197 (p : Program) (l : Launch) (e : Env) (s : State) (m : MethodId) (args : Array Value) (below : List Frame) (meth : Method) (c : Code) (dC : Nat → ClassId) (dI : Nat → Nat → Nat) (kA : Nat → ClassId) (ad : Nat → Nat) (res : RS) (F : RS → Int64 → Int32 → Option (RS)) : Prop := ∀ (σ : RS) (x1 : Int64) (x3 : Int32), F σ x1 x3 = some res → ∀ (H : Heap) (locs : List Loc) (ls : Array Slot), va_P (dC, dI) vwCl (r_w kA ad σ) H → va_S (jw_A 32 ad) s.heap H locs → lv_has ls 6 [(0, .ref (ad 0)), (1, .long x1), (3, .int x3)] → W p l e rm_rX12_keep s m args below meth c H locs 0 0 (r_Qu below dC dI kA ad args s res) (F0 m 197 ls [])
def G_rX12_keep_b162 (p : Program) (l : Launch) (e : Env) (s : State) (m : MethodId) (args : Array Value) (below : List Frame) (meth : Method) (c : Code) (dC : Nat → ClassId) (dI : Nat → Nat → Nat) (kA : Nat → ClassId) (ad : Nat → Nat) (res : RS) (F : RS → Int64 → Int32 → Int32 → Option (RS)) : Prop := ∀ (σ : RS) (x1 : Int64) (x3 : Int32) (x4 : Int32), F σ x1 x3 x4 = some res → ∀ (H : Heap) (locs : List Loc) (ls : Array Slot), va_P (dC, dI) vwCl (r_w kA ad σ) H → va_S (jw_A 32 ad) s.heap H locs → lv_has ls 6 [(0, .ref (ad 0)), (1, .long x1), (3, .int x3), (4, .int x4)] → W p l e rm_rX12_keep s m args below meth c H locs 0 0 (r_Qu below dC dI kA ad args s res) (F0 m 162 ls [])
def G_rX12_keep_b159 (p : Program) (l : Launch) (e : Env) (s : State) (m : MethodId) (args : Array Value) (below : List Frame) (meth : Method) (c : Code) (dC : Nat → ClassId) (dI : Nat → Nat → Nat) (kA : Nat → ClassId) (ad : Nat → Nat) (res : RS) (F : RS → Int64 → Int32 → Option (RS)) : Prop := ∀ (σ : RS) (x1 : Int64) (x3 : Int32), F σ x1 x3 = some res → ∀ (H : Heap) (locs : List Loc) (ls : Array Slot), va_P (dC, dI) vwCl (r_w kA ad σ) H → va_S (jw_A 32 ad) s.heap H locs → lv_has ls 6 [(0, .ref (ad 0)), (1, .long x1), (3, .int x3)] → W p l e rm_rX12_keep s m args below meth c H locs 0 0 (r_Qu below dC dI kA ad args s res) (F0 m 159 ls [])
def G_rX12_keep_b149 (p : Program) (l : Launch) (e : Env) (s : State) (m : MethodId) (args : Array Value) (below : List Frame) (meth : Method) (c : Code) (dC : Nat → ClassId) (dI : Nat → Nat → Nat) (kA : Nat → ClassId) (ad : Nat → Nat) (res : RS) (F : RS → Int64 → Int32 → Option (RS)) : Prop := ∀ (σ : RS) (x1 : Int64) (x3 : Int32), F σ x1 x3 = some res → ∀ (H : Heap) (locs : List Loc) (ls : Array Slot), va_P (dC, dI) vwCl (r_w kA ad σ) H → va_S (jw_A 32 ad) s.heap H locs → lv_has ls 6 [(0, .ref (ad 0)), (1, .long x1), (3, .int x3)] → W p l e rm_rX12_keep s m args below meth c H locs 0 0 (r_Qu below dC dI kA ad args s res) (F0 m 149 ls [])
def G_rX12_keep_b111 (p : Program) (l : Launch) (e : Env) (s : State) (m : MethodId) (args : Array Value) (below : List Frame) (meth : Method) (c : Code) (dC : Nat → ClassId) (dI : Nat → Nat → Nat) (kA : Nat → ClassId) (ad : Nat → Nat) (res : RS) (F : RS → Int64 → Int32 → Int32 → Option (RS)) : Prop := ∀ (σ : RS) (x1 : Int64) (x3 : Int32) (x4 : Int32), F σ x1 x3 x4 = some res → ∀ (H : Heap) (locs : List Loc) (ls : Array Slot), va_P (dC, dI) vwCl (r_w kA ad σ) H → va_S (jw_A 32 ad) s.heap H locs → lv_has ls 6 [(0, .ref (ad 0)), (1, .long x1), (3, .int x3), (4, .int x4)] → W p l e rm_rX12_keep s m args below meth c H locs 0 0 (r_Qu below dC dI kA ad args s res) (F0 m 111 ls [])
def G_rX12_keep_b69 (p : Program) (l : Launch) (e : Env) (s : State) (m : MethodId) (args : Array Value) (below : List Frame) (meth : Method) (c : Code) (dC : Nat → ClassId) (dI : Nat → Nat → Nat) (kA : Nat → ClassId) (ad : Nat → Nat) (res : RS) (F : RS → Int64 → Int32 → Int32 → Int32 → Option (RS)) : Prop := ∀ (σ : RS) (x1 : Int64) (x3 : Int32) (x4 : Int32) (x5 : Int32), F σ x1 x3 x4 x5 = some res → ∀ (H : Heap) (locs : List Loc) (ls : Array Slot), va_P (dC, dI) vwCl (r_w kA ad σ) H → va_S (jw_A 32 ad) s.heap H locs → lv_has ls 6 [(0, .ref (ad 0)), (1, .long x1), (3, .int x3), (4, .int x4), (5, .int x5)] → W p l e rm_rX12_keep s m args below meth c H locs 0 0 (r_Qu below dC dI kA ad args s res) (F0 m 69 ls [])
def G_rX12_keep_b66 (p : Program) (l : Launch) (e : Env) (s : State) (m : MethodId) (args : Array Value) (below : List Frame) (meth : Method) (c : Code) (dC : Nat → ClassId) (dI : Nat → Nat → Nat) (kA : Nat → ClassId) (ad : Nat → Nat) (res : RS) (F : RS → Int64 → Int32 → Int32 → Option (RS)) : Prop := ∀ (σ : RS) (x1 : Int64) (x3 : Int32) (x4 : Int32), F σ x1 x3 x4 = some res → ∀ (H : Heap) (locs : List Loc) (ls : Array Slot), va_P (dC, dI) vwCl (r_w kA ad σ) H → va_S (jw_A 32 ad) s.heap H locs → lv_has ls 6 [(0, .ref (ad 0)), (1, .long x1), (3, .int x3), (4, .int x4)] → W p l e rm_rX12_keep s m args below meth c H locs 0 0 (r_Qu below dC dI kA ad args s res) (F0 m 66 ls [])
def G_rX12_keep_b24 (p : Program) (l : Launch) (e : Env) (s : State) (m : MethodId) (args : Array Value) (below : List Frame) (meth : Method) (c : Code) (dC : Nat → ClassId) (dI : Nat → Nat → Nat) (kA : Nat → ClassId) (ad : Nat → Nat) (res : RS) (F : RS → Int64 → Int32 → Int32 → Int32 → Option (RS)) : Prop := ∀ (σ : RS) (x1 : Int64) (x3 : Int32) (x4 : Int32) (x5 : Int32), F σ x1 x3 x4 x5 = some res → ∀ (H : Heap) (locs : List Loc) (ls : Array Slot), va_P (dC, dI) vwCl (r_w kA ad σ) H → va_S (jw_A 32 ad) s.heap H locs → lv_has ls 6 [(0, .ref (ad 0)), (1, .long x1), (3, .int x3), (4, .int x4), (5, .int x5)] → W p l e rm_rX12_keep s m args below meth c H locs 0 0 (r_Qu below dC dI kA ad args s res) (F0 m 24 ls [])
def G_rX12_keep_b12 (p : Program) (l : Launch) (e : Env) (s : State) (m : MethodId) (args : Array Value) (below : List Frame) (meth : Method) (c : Code) (dC : Nat → ClassId) (dI : Nat → Nat → Nat) (kA : Nat → ClassId) (ad : Nat → Nat) (res : RS) (F : RS → Int64 → Int32 → Int32 → Option (RS)) : Prop := ∀ (σ : RS) (x1 : Int64) (x3 : Int32) (x4 : Int32), F σ x1 x3 x4 = some res → ∀ (H : Heap) (locs : List Loc) (ls : Array Slot), va_P (dC, dI) vwCl (r_w kA ad σ) H → va_S (jw_A 32 ad) s.heap H locs → lv_has ls 6 [(0, .ref (ad 0)), (1, .long x1), (3, .int x3), (4, .int x4)] → W p l e rm_rX12_keep s m args below meth c H locs 0 0 (r_Qu below dC dI kA ad args s res) (F0 m 12 ls [])
def G_rX12_keep (p : Program) (l : Launch) (e : Env) (s : State) (m : MethodId) (args : Array Value) (below : List Frame) (meth : Method) (c : Code) (dC : Nat → ClassId) (dI : Nat → Nat → Nat) (kA : Nat → ClassId) (ad : Nat → Nat) (res : RS) (F : RS → Int64 → Int32 → Option (RS)) : Prop := ∀ (σ : RS) (x1 : Int64) (x3 : Int32), F σ x1 x3 = some res → ∀ (H : Heap) (locs : List Loc) (ls : Array Slot), va_P (dC, dI) vwCl (r_w kA ad σ) H → va_S (jw_A 32 ad) s.heap H locs → lv_has ls 6 [(0, .ref (ad 0)), (1, .long x1), (3, .int x3)] → W p l e rm_rX12_keep s m args below meth c H locs 0 0 (r_Qu below dC dI kA ad args s res) (F0 m 0 ls [])
def s_rX12_keep_b235 (σ : RS) (x1 : Int64) (x3 : Int32) : Option (RS) := kn_st (rs_B σ 4 (vp_updL (rg_B σ 4) (rg_I σ 7).toNatClampNeg x1)) 6 (rg_I σ 7) (fun σ1 => kn_st (rs_A σ1 10 (upd (rg_A σ1 10) (rg_I σ1 7).toNatClampNeg x3)) 6 (rg_I σ1 7) (fun σ2 => kn_v (rs_I σ2 7 ((rg_I σ2 7) + 1)) (fun σ3 => some σ3)))
set_option maxRecDepth 100000 in
set_option maxHeartbeats 4000000 in
theorem p_rX12_keep_b235 {p : Program} {l : Launch} {e : Env} {s : State} {m : MethodId} {args : Array Value} {below : List Frame} {meth : Method} {c : Code} {dC : Nat → ClassId} {dI : Nat → Nat → Nat} {kA : Nat → ClassId} {ad : Nat → Nat} (C : jxc cX12_keep none 6 RX12 p s m args meth c dC dI kA) (hap : jw_ap 32 ad) {res : RS} : G_rX12_keep_b235 p l e s m args below meth c dC dI kA ad res (s_rX12_keep_b235) := by
  obtain ⟨hx, hb, hml, hown, hts, hr, hlocks, hK, hN⟩ := id C
  intro σ x1 x3 hf H locs ls hP hS hl
  unfold s_rX12_keep_b235 at hf
  refine lv_aload_n hx hb dX12_keep_235 rfl (lv_at hl 0 rfl) ?_
  refine r_gX12_oldWhole hx hb hts hown hK hP (hts _ kw_782) dX12_keep_236 ?_
  refine lv_aload_n hx hb dX12_keep_239 rfl (lv_at hl 0 rfl) ?_
  refine r_gX12_kept hx hb hts hown hK hP (hts _ kw_779) dX12_keep_240 ?_
  refine lv_lload_n hx hb dX12_keep_243 rfl (lv_at hl 1 rfl) ?_
  refine ja_lst hx hb hK (r_D hap σ) hP hS 15 1 rfl rfl r_sB4 hf dX12_keep_244 (fun σ1 H locs hP hS hf => ?_)
  refine lv_aload_n hx hb dX12_keep_245 rfl (lv_at hl 0 rfl) ?_
  refine r_gX12_oldRounds hx hb hts hown hK hP (hts _ kw_783) dX12_keep_246 ?_
  refine lv_aload_n hx hb dX12_keep_249 rfl (lv_at hl 0 rfl) ?_
  refine r_gX12_kept hx hb hts hown hK hP (hts _ kw_779) dX12_keep_250 ?_
  refine lv_iload_n hx hb dX12_keep_253 rfl (lv_at hl 2 rfl) ?_
  refine ja_ist hx hb hK (r_D hap σ1) hP hS 16 0 rfl rfl r_sA10 hf dX12_keep_254 (fun σ2 H locs hP hS hf => ?_)
  refine lv_aload_n hx hb dX12_keep_255 rfl (lv_at hl 0 rfl) ?_
  refine lv_dup hx hb dX12_keep_256 rfl ?_
  refine r_gX12_kept hx hb hts hown hK hP (hts _ kw_779) dX12_keep_257 ?_
  refine lv_iconst (v := 1) hx hb dX12_keep_260 (by decide) ?_
  refine lv_iadd hx hb dX12_keep_261 ?_
  refine r_pX12_kept hx hb hts hown hK hap hP hS hf (hts _ kw_779) dX12_keep_262 (fun σ3 H locs hP hS hf => ?_)
  exact jr_u hx hb hr hlocks hf hP hS dX12_keep_265
def s_rX12_keep_b200 (k200 : RS → Int64 → Int32 → Int32 → Option (RS)) (σ : RS) (x1 : Int64) (x3 : Int32) (x4 : Int32) : Option (RS) := if 12 ≤ x4 then (s_rX12_keep_b235 σ x1 x3) else (kn_ld (rg_A σ 17) 12 x4 (fun v1 => kn_st (rs_A σ 9 (upd (rg_A σ 9) ((12 * (rg_I σ 7)) + x4).toNatClampNeg (vp_nar .boolean v1))) 72 ((12 * (rg_I σ 7)) + x4) (fun σ2 => kn_v (x4 + 1) (fun v3 => k200 σ2 x1 x3 v3))))
set_option maxRecDepth 100000 in
set_option maxHeartbeats 4000000 in
theorem p_rX12_keep_b200 {p : Program} {l : Launch} {e : Env} {s : State} {m : MethodId} {args : Array Value} {below : List Frame} {meth : Method} {c : Code} {dC : Nat → ClassId} {dI : Nat → Nat → Nat} {kA : Nat → ClassId} {ad : Nat → Nat} (C : jxc cX12_keep none 6 RX12 p s m args meth c dC dI kA) (hap : jw_ap 32 ad) {res : RS} {k200 : RS → Int64 → Int32 → Int32 → Option (RS)} (hk200 : G_rX12_keep_b200 p l e s m args below meth c dC dI kA ad res k200) : G_rX12_keep_b200 p l e s m args below meth c dC dI kA ad res (s_rX12_keep_b200 k200) := by
  obtain ⟨hx, hb, hml, hown, hts, hr, hlocks, hK, hN⟩ := id C
  intro σ x1 x3 x4 hf H locs ls hP hS hl
  unfold s_rX12_keep_b200 at hf
  refine lv_iload hx hb dX12_keep_200 (lv_at hl 3 rfl) ?_
  refine lv_bipush (v := 12) hx hb dX12_keep_202 (by decide) ?_
  refine jc_ge (tgt := 235) hx hb hf dX12_keep_204 (by decide) (fun hf => ?_) (fun hf => ?_)
  · exact (p_rX12_keep_b235 C hap) σ x1 x3 hf H locs ls hP hS (lv_sub hl [0, 1, 2] rfl)
  · refine lv_aload_n hx hb dX12_keep_207 rfl (lv_at hl 0 rfl) ?_
    refine r_gX12_oldAwake hx hb hts hown hK hP (hts _ kw_781) dX12_keep_208 ?_
    refine lv_bipush (v := 12) hx hb dX12_keep_211 (by decide) ?_
    refine lv_aload_n hx hb dX12_keep_213 rfl (lv_at hl 0 rfl) ?_
    refine r_gX12_kept hx hb hts hown hK hP (hts _ kw_779) dX12_keep_214 ?_
    refine lv_imul hx hb dX12_keep_217 ?_
    refine lv_iload hx hb dX12_keep_218 (lv_at hl 3 rfl) ?_
    refine lv_iadd hx hb dX12_keep_220 ?_
    refine lv_aload_n hx hb dX12_keep_221 rfl (lv_at hl 0 rfl) ?_
    refine r_gX12_beforeAwake hx hb hts hown hK hP (hts _ kw_807) dX12_keep_222 ?_
    refine lv_iload hx hb dX12_keep_225 (lv_at hl 3 rfl) ?_
    refine ja_zld hx hb hK hP 28 2 rfl rfl hf dX12_keep_227 (fun v1 hf => ?_)
    refine ja_zst hx hb hK (r_D hap σ) hP hS 14 2 rfl rfl rfl r_sA9 hf dX12_keep_228 (fun σ2 H locs hP hS hf => ?_)
    obtain ⟨v3, e_v3, hf⟩ := kn_v_e hf
    refine lv_iinc (v := v3) (lv' := [(4, .int v3), (0, .ref (ad 0)), (1, .long x1), (3, .int x3)]) hx hb dX12_keep_229 hl (k := 3) rfl e_v3 (by decide) rfl (fun ls hl => ?_)
    refine lv_goto (tgt := 200) hx hb dX12_keep_232 (by decide) ?_
    exact hk200 σ2 x1 x3 v3 hf H locs ls hP hS (lv_sub hl [1, 2, 3, 0] rfl)
def f_rX12_keep_b200 : RS → Int64 → Int32 → Int32 → Option (RS) := kn_fix (fun _ _ _ _ => none) (s_rX12_keep_b200) FU
theorem q_rX12_keep_b200 {p : Program} {l : Launch} {e : Env} {s : State} {m : MethodId} {args : Array Value} {below : List Frame} {meth : Method} {c : Code} {dC : Nat → ClassId} {dI : Nat → Nat → Nat} {kA : Nat → ClassId} {ad : Nat → Nat} (C : jxc cX12_keep none 6 RX12 p s m args meth c dC dI kA) (hap : jw_ap 32 ad) {res : RS} : G_rX12_keep_b200 p l e s m args below meth c dC dI kA ad res (f_rX12_keep_b200) := kn_fix_ind (G := fun F => G_rX12_keep_b200 p l e s m args below meth c dC dI kA ad res F) (fun _ _ _ _ hf => by cases hf) (fun k200 hk200 => p_rX12_keep_b200 C hap hk200) FU
def s_rX12_keep_b197 (σ : RS) (x1 : Int64) (x3 : Int32) : Option (RS) := f_rX12_keep_b200 σ x1 x3 0
set_option maxRecDepth 100000 in
set_option maxHeartbeats 4000000 in
theorem p_rX12_keep_b197 {p : Program} {l : Launch} {e : Env} {s : State} {m : MethodId} {args : Array Value} {below : List Frame} {meth : Method} {c : Code} {dC : Nat → ClassId} {dI : Nat → Nat → Nat} {kA : Nat → ClassId} {ad : Nat → Nat} (C : jxc cX12_keep none 6 RX12 p s m args meth c dC dI kA) (hap : jw_ap 32 ad) {res : RS} : G_rX12_keep_b197 p l e s m args below meth c dC dI kA ad res (s_rX12_keep_b197) := by
  obtain ⟨hx, hb, hml, hown, hts, hr, hlocks, hK, hN⟩ := id C
  intro σ x1 x3 hf H locs ls hP hS hl
  unfold s_rX12_keep_b197 at hf
  refine lv_iconst (v := 0) hx hb dX12_keep_197 (by decide) ?_
  refine lv_istore (lv' := [(4, .int 0), (0, .ref (ad 0)), (1, .long x1), (3, .int x3)]) hx hb dX12_keep_198 hl (by decide) rfl (fun ls hl => ?_)
  exact (q_rX12_keep_b200 C hap) σ x1 x3 0 hf H locs ls hP hS (lv_sub hl [1, 2, 3, 0] rfl)
def s_rX12_keep_b162 (k162 : RS → Int64 → Int32 → Int32 → Option (RS)) (σ : RS) (x1 : Int64) (x3 : Int32) (x4 : Int32) : Option (RS) := if 36 ≤ x4 then (s_rX12_keep_b197 σ x1 x3) else (kn_ld (rg_B σ 9) 36 x4 (fun v1 => kn_st (rs_B σ 3 (vp_updL (rg_B σ 3) ((36 * (rg_I σ 7)) + x4).toNatClampNeg v1)) 216 ((36 * (rg_I σ 7)) + x4) (fun σ2 => kn_v (x4 + 1) (fun v3 => k162 σ2 x1 x3 v3))))
set_option maxRecDepth 100000 in
set_option maxHeartbeats 4000000 in
theorem p_rX12_keep_b162 {p : Program} {l : Launch} {e : Env} {s : State} {m : MethodId} {args : Array Value} {below : List Frame} {meth : Method} {c : Code} {dC : Nat → ClassId} {dI : Nat → Nat → Nat} {kA : Nat → ClassId} {ad : Nat → Nat} (C : jxc cX12_keep none 6 RX12 p s m args meth c dC dI kA) (hap : jw_ap 32 ad) {res : RS} {k162 : RS → Int64 → Int32 → Int32 → Option (RS)} (hk162 : G_rX12_keep_b162 p l e s m args below meth c dC dI kA ad res k162) : G_rX12_keep_b162 p l e s m args below meth c dC dI kA ad res (s_rX12_keep_b162 k162) := by
  obtain ⟨hx, hb, hml, hown, hts, hr, hlocks, hK, hN⟩ := id C
  intro σ x1 x3 x4 hf H locs ls hP hS hl
  unfold s_rX12_keep_b162 at hf
  refine lv_iload hx hb dX12_keep_162 (lv_at hl 3 rfl) ?_
  refine lv_bipush (v := 36) hx hb dX12_keep_164 (by decide) ?_
  refine jc_ge (tgt := 197) hx hb hf dX12_keep_166 (by decide) (fun hf => ?_) (fun hf => ?_)
  · exact (p_rX12_keep_b197 C hap) σ x1 x3 hf H locs ls hP hS (lv_sub hl [0, 1, 2] rfl)
  · refine lv_aload_n hx hb dX12_keep_169 rfl (lv_at hl 0 rfl) ?_
    refine r_gX12_oldStates hx hb hts hown hK hP (hts _ kw_780) dX12_keep_170 ?_
    refine lv_bipush (v := 36) hx hb dX12_keep_173 (by decide) ?_
    refine lv_aload_n hx hb dX12_keep_175 rfl (lv_at hl 0 rfl) ?_
    refine r_gX12_kept hx hb hts hown hK hP (hts _ kw_779) dX12_keep_176 ?_
    refine lv_imul hx hb dX12_keep_179 ?_
    refine lv_iload hx hb dX12_keep_180 (lv_at hl 3 rfl) ?_
    refine lv_iadd hx hb dX12_keep_182 ?_
    refine lv_aload_n hx hb dX12_keep_183 rfl (lv_at hl 0 rfl) ?_
    refine r_gX12_beforeStates hx hb hts hown hK hP (hts _ kw_806) dX12_keep_184 ?_
    refine lv_iload hx hb dX12_keep_187 (lv_at hl 3 rfl) ?_
    refine ja_lld hx hb hK hP 27 1 rfl rfl hf dX12_keep_189 (fun v1 hf => ?_)
    refine ja_lst hx hb hK (r_D hap σ) hP hS 13 1 rfl rfl r_sB3 hf dX12_keep_190 (fun σ2 H locs hP hS hf => ?_)
    obtain ⟨v3, e_v3, hf⟩ := kn_v_e hf
    refine lv_iinc (v := v3) (lv' := [(4, .int v3), (0, .ref (ad 0)), (1, .long x1), (3, .int x3)]) hx hb dX12_keep_191 hl (k := 3) rfl e_v3 (by decide) rfl (fun ls hl => ?_)
    refine lv_goto (tgt := 162) hx hb dX12_keep_194 (by decide) ?_
    exact hk162 σ2 x1 x3 v3 hf H locs ls hP hS (lv_sub hl [1, 2, 3, 0] rfl)
def f_rX12_keep_b162 : RS → Int64 → Int32 → Int32 → Option (RS) := kn_fix (fun _ _ _ _ => none) (s_rX12_keep_b162) FU
theorem q_rX12_keep_b162 {p : Program} {l : Launch} {e : Env} {s : State} {m : MethodId} {args : Array Value} {below : List Frame} {meth : Method} {c : Code} {dC : Nat → ClassId} {dI : Nat → Nat → Nat} {kA : Nat → ClassId} {ad : Nat → Nat} (C : jxc cX12_keep none 6 RX12 p s m args meth c dC dI kA) (hap : jw_ap 32 ad) {res : RS} : G_rX12_keep_b162 p l e s m args below meth c dC dI kA ad res (f_rX12_keep_b162) := kn_fix_ind (G := fun F => G_rX12_keep_b162 p l e s m args below meth c dC dI kA ad res F) (fun _ _ _ _ hf => by cases hf) (fun k162 hk162 => p_rX12_keep_b162 C hap hk162) FU
def s_rX12_keep_b159 (σ : RS) (x1 : Int64) (x3 : Int32) : Option (RS) := f_rX12_keep_b162 σ x1 x3 0
set_option maxRecDepth 100000 in
set_option maxHeartbeats 4000000 in
theorem p_rX12_keep_b159 {p : Program} {l : Launch} {e : Env} {s : State} {m : MethodId} {args : Array Value} {below : List Frame} {meth : Method} {c : Code} {dC : Nat → ClassId} {dI : Nat → Nat → Nat} {kA : Nat → ClassId} {ad : Nat → Nat} (C : jxc cX12_keep none 6 RX12 p s m args meth c dC dI kA) (hap : jw_ap 32 ad) {res : RS} : G_rX12_keep_b159 p l e s m args below meth c dC dI kA ad res (s_rX12_keep_b159) := by
  obtain ⟨hx, hb, hml, hown, hts, hr, hlocks, hK, hN⟩ := id C
  intro σ x1 x3 hf H locs ls hP hS hl
  unfold s_rX12_keep_b159 at hf
  refine lv_iconst (v := 0) hx hb dX12_keep_159 (by decide) ?_
  refine lv_istore (lv' := [(4, .int 0), (0, .ref (ad 0)), (1, .long x1), (3, .int x3)]) hx hb dX12_keep_160 hl (by decide) rfl (fun ls hl => ?_)
  exact (q_rX12_keep_b162 C hap) σ x1 x3 0 hf H locs ls hP hS (lv_sub hl [1, 2, 3, 0] rfl)
def s_rX12_keep_b149 (σ : RS) (x1 : Int64) (x3 : Int32) : Option (RS) := kn_v (rs_I σ 7 ((rg_I σ 7) - 1)) (fun σ1 => s_rX12_keep_b159 σ1 x1 x3)
set_option maxRecDepth 100000 in
set_option maxHeartbeats 4000000 in
theorem p_rX12_keep_b149 {p : Program} {l : Launch} {e : Env} {s : State} {m : MethodId} {args : Array Value} {below : List Frame} {meth : Method} {c : Code} {dC : Nat → ClassId} {dI : Nat → Nat → Nat} {kA : Nat → ClassId} {ad : Nat → Nat} (C : jxc cX12_keep none 6 RX12 p s m args meth c dC dI kA) (hap : jw_ap 32 ad) {res : RS} : G_rX12_keep_b149 p l e s m args below meth c dC dI kA ad res (s_rX12_keep_b149) := by
  obtain ⟨hx, hb, hml, hown, hts, hr, hlocks, hK, hN⟩ := id C
  intro σ x1 x3 hf H locs ls hP hS hl
  unfold s_rX12_keep_b149 at hf
  refine lv_aload_n hx hb dX12_keep_149 rfl (lv_at hl 0 rfl) ?_
  refine lv_dup hx hb dX12_keep_150 rfl ?_
  refine r_gX12_kept hx hb hts hown hK hP (hts _ kw_779) dX12_keep_151 ?_
  refine lv_iconst (v := 1) hx hb dX12_keep_154 (by decide) ?_
  refine lv_isub hx hb dX12_keep_155 ?_
  refine r_pX12_kept hx hb hts hown hK hap hP hS hf (hts _ kw_779) dX12_keep_156 (fun σ1 H locs hP hS hf => ?_)
  exact (p_rX12_keep_b159 C hap) σ1 x1 x3 hf H locs ls hP hS (lv_sub hl [0, 1, 2] rfl)
def s_rX12_keep_b111 (k12 : RS → Int64 → Int32 → Int32 → Option (RS)) (σ : RS) (x1 : Int64) (x3 : Int32) (x4 : Int32) : Option (RS) := kn_ld (rg_B σ 4) 6 (x4 + 1) (fun v1 => kn_st (rs_B σ 4 (vp_updL (rg_B σ 4) x4.toNatClampNeg v1)) 6 x4 (fun σ2 => kn_ld (rg_A σ2 10) 6 (x4 + 1) (fun v3 => kn_st (rs_A σ2 10 (upd (rg_A σ2 10) x4.toNatClampNeg v3)) 6 x4 (fun σ4 => kn_v (x4 + 1) (fun v5 => k12 σ4 x1 x3 v5)))))
set_option maxRecDepth 100000 in
set_option maxHeartbeats 4000000 in
theorem p_rX12_keep_b111 {p : Program} {l : Launch} {e : Env} {s : State} {m : MethodId} {args : Array Value} {below : List Frame} {meth : Method} {c : Code} {dC : Nat → ClassId} {dI : Nat → Nat → Nat} {kA : Nat → ClassId} {ad : Nat → Nat} (C : jxc cX12_keep none 6 RX12 p s m args meth c dC dI kA) (hap : jw_ap 32 ad) {res : RS} {k12 : RS → Int64 → Int32 → Int32 → Option (RS)} (hk12 : G_rX12_keep_b12 p l e s m args below meth c dC dI kA ad res k12) : G_rX12_keep_b111 p l e s m args below meth c dC dI kA ad res (s_rX12_keep_b111 k12) := by
  obtain ⟨hx, hb, hml, hown, hts, hr, hlocks, hK, hN⟩ := id C
  intro σ x1 x3 x4 hf H locs ls hP hS hl
  unfold s_rX12_keep_b111 at hf
  refine lv_aload_n hx hb dX12_keep_111 rfl (lv_at hl 0 rfl) ?_
  refine r_gX12_oldWhole hx hb hts hown hK hP (hts _ kw_782) dX12_keep_112 ?_
  refine lv_iload hx hb dX12_keep_115 (lv_at hl 3 rfl) ?_
  refine lv_aload_n hx hb dX12_keep_117 rfl (lv_at hl 0 rfl) ?_
  refine r_gX12_oldWhole hx hb hts hown hK hP (hts _ kw_782) dX12_keep_118 ?_
  refine lv_iload hx hb dX12_keep_121 (lv_at hl 3 rfl) ?_
  refine lv_iconst (v := 1) hx hb dX12_keep_123 (by decide) ?_
  refine lv_iadd hx hb dX12_keep_124 ?_
  refine ja_lld hx hb hK hP 15 1 rfl rfl hf dX12_keep_125 (fun v1 hf => ?_)
  refine ja_lst hx hb hK (r_D hap σ) hP hS 15 1 rfl rfl r_sB4 hf dX12_keep_126 (fun σ2 H locs hP hS hf => ?_)
  refine lv_aload_n hx hb dX12_keep_127 rfl (lv_at hl 0 rfl) ?_
  refine r_gX12_oldRounds hx hb hts hown hK hP (hts _ kw_783) dX12_keep_128 ?_
  refine lv_iload hx hb dX12_keep_131 (lv_at hl 3 rfl) ?_
  refine lv_aload_n hx hb dX12_keep_133 rfl (lv_at hl 0 rfl) ?_
  refine r_gX12_oldRounds hx hb hts hown hK hP (hts _ kw_783) dX12_keep_134 ?_
  refine lv_iload hx hb dX12_keep_137 (lv_at hl 3 rfl) ?_
  refine lv_iconst (v := 1) hx hb dX12_keep_139 (by decide) ?_
  refine lv_iadd hx hb dX12_keep_140 ?_
  refine ja_ild hx hb hK hP 16 0 rfl rfl hf dX12_keep_141 (fun v3 hf => ?_)
  refine ja_ist hx hb hK (r_D hap σ2) hP hS 16 0 rfl rfl r_sA10 hf dX12_keep_142 (fun σ4 H locs hP hS hf => ?_)
  obtain ⟨v5, e_v5, hf⟩ := kn_v_e hf
  refine lv_iinc (v := v5) (lv' := [(4, .int v5), (0, .ref (ad 0)), (1, .long x1), (3, .int x3)]) hx hb dX12_keep_143 hl (k := 3) rfl e_v5 (by decide) rfl (fun ls hl => ?_)
  refine lv_goto (tgt := 12) hx hb dX12_keep_146 (by decide) ?_
  exact hk12 σ4 x1 x3 v5 hf H locs ls hP hS (lv_sub hl [1, 2, 3, 0] rfl)
def s_rX12_keep_b69 (k12 : RS → Int64 → Int32 → Int32 → Option (RS)) (k69 : RS → Int64 → Int32 → Int32 → Int32 → Option (RS)) (σ : RS) (x1 : Int64) (x3 : Int32) (x4 : Int32) (x5 : Int32) : Option (RS) := if 12 ≤ x5 then (s_rX12_keep_b111 k12 σ x1 x3 x4) else (kn_ld (rg_A σ 9) 72 (((12 * x4) + 12) + x5) (fun v1 => kn_st (rs_A σ 9 (upd (rg_A σ 9) ((12 * x4) + x5).toNatClampNeg (vp_nar .boolean v1))) 72 ((12 * x4) + x5) (fun σ2 => kn_v (x5 + 1) (fun v3 => k69 σ2 x1 x3 x4 v3))))
set_option maxRecDepth 100000 in
set_option maxHeartbeats 4000000 in
theorem p_rX12_keep_b69 {p : Program} {l : Launch} {e : Env} {s : State} {m : MethodId} {args : Array Value} {below : List Frame} {meth : Method} {c : Code} {dC : Nat → ClassId} {dI : Nat → Nat → Nat} {kA : Nat → ClassId} {ad : Nat → Nat} (C : jxc cX12_keep none 6 RX12 p s m args meth c dC dI kA) (hap : jw_ap 32 ad) {res : RS} {k12 : RS → Int64 → Int32 → Int32 → Option (RS)} (hk12 : G_rX12_keep_b12 p l e s m args below meth c dC dI kA ad res k12) {k69 : RS → Int64 → Int32 → Int32 → Int32 → Option (RS)} (hk69 : G_rX12_keep_b69 p l e s m args below meth c dC dI kA ad res k69) : G_rX12_keep_b69 p l e s m args below meth c dC dI kA ad res (s_rX12_keep_b69 k12 k69) := by
  obtain ⟨hx, hb, hml, hown, hts, hr, hlocks, hK, hN⟩ := id C
  intro σ x1 x3 x4 x5 hf H locs ls hP hS hl
  unfold s_rX12_keep_b69 at hf
  refine lv_iload hx hb dX12_keep_69 (lv_at hl 4 rfl) ?_
  refine lv_bipush (v := 12) hx hb dX12_keep_71 (by decide) ?_
  refine jc_ge (tgt := 111) hx hb hf dX12_keep_73 (by decide) (fun hf => ?_) (fun hf => ?_)
  · exact (p_rX12_keep_b111 C hap hk12) σ x1 x3 x4 hf H locs ls hP hS (lv_sub hl [0, 1, 2, 3] rfl)
  · refine lv_aload_n hx hb dX12_keep_76 rfl (lv_at hl 0 rfl) ?_
    refine r_gX12_oldAwake hx hb hts hown hK hP (hts _ kw_781) dX12_keep_77 ?_
    refine lv_bipush (v := 12) hx hb dX12_keep_80 (by decide) ?_
    refine lv_iload hx hb dX12_keep_82 (lv_at hl 3 rfl) ?_
    refine lv_imul hx hb dX12_keep_84 ?_
    refine lv_iload hx hb dX12_keep_85 (lv_at hl 4 rfl) ?_
    refine lv_iadd hx hb dX12_keep_87 ?_
    refine lv_aload_n hx hb dX12_keep_88 rfl (lv_at hl 0 rfl) ?_
    refine r_gX12_oldAwake hx hb hts hown hK hP (hts _ kw_781) dX12_keep_89 ?_
    refine lv_bipush (v := 12) hx hb dX12_keep_92 (by decide) ?_
    refine lv_iload hx hb dX12_keep_94 (lv_at hl 3 rfl) ?_
    refine lv_imul hx hb dX12_keep_96 ?_
    refine lv_bipush (v := 12) hx hb dX12_keep_97 (by decide) ?_
    refine lv_iadd hx hb dX12_keep_99 ?_
    refine lv_iload hx hb dX12_keep_100 (lv_at hl 4 rfl) ?_
    refine lv_iadd hx hb dX12_keep_102 ?_
    refine ja_zld hx hb hK hP 14 2 rfl rfl hf dX12_keep_103 (fun v1 hf => ?_)
    refine ja_zst hx hb hK (r_D hap σ) hP hS 14 2 rfl rfl rfl r_sA9 hf dX12_keep_104 (fun σ2 H locs hP hS hf => ?_)
    obtain ⟨v3, e_v3, hf⟩ := kn_v_e hf
    refine lv_iinc (v := v3) (lv' := [(5, .int v3), (0, .ref (ad 0)), (1, .long x1), (3, .int x3), (4, .int x4)]) hx hb dX12_keep_105 hl (k := 4) rfl e_v3 (by decide) rfl (fun ls hl => ?_)
    refine lv_goto (tgt := 69) hx hb dX12_keep_108 (by decide) ?_
    exact hk69 σ2 x1 x3 x4 v3 hf H locs ls hP hS (lv_sub hl [1, 2, 3, 4, 0] rfl)
def f_rX12_keep_b69 (k12 : RS → Int64 → Int32 → Int32 → Option (RS)) : RS → Int64 → Int32 → Int32 → Int32 → Option (RS) := kn_fix (fun _ _ _ _ _ => none) (s_rX12_keep_b69 k12) FU
theorem q_rX12_keep_b69 {p : Program} {l : Launch} {e : Env} {s : State} {m : MethodId} {args : Array Value} {below : List Frame} {meth : Method} {c : Code} {dC : Nat → ClassId} {dI : Nat → Nat → Nat} {kA : Nat → ClassId} {ad : Nat → Nat} (C : jxc cX12_keep none 6 RX12 p s m args meth c dC dI kA) (hap : jw_ap 32 ad) {res : RS} {k12 : RS → Int64 → Int32 → Int32 → Option (RS)} (hk12 : G_rX12_keep_b12 p l e s m args below meth c dC dI kA ad res k12) : G_rX12_keep_b69 p l e s m args below meth c dC dI kA ad res (f_rX12_keep_b69 k12) := kn_fix_ind (G := fun F => G_rX12_keep_b69 p l e s m args below meth c dC dI kA ad res F) (fun _ _ _ _ _ hf => by cases hf) (fun k69 hk69 => p_rX12_keep_b69 C hap hk12 hk69) FU
def s_rX12_keep_b66 (k12 : RS → Int64 → Int32 → Int32 → Option (RS)) (σ : RS) (x1 : Int64) (x3 : Int32) (x4 : Int32) : Option (RS) := f_rX12_keep_b69 k12 σ x1 x3 x4 0
set_option maxRecDepth 100000 in
set_option maxHeartbeats 4000000 in
theorem p_rX12_keep_b66 {p : Program} {l : Launch} {e : Env} {s : State} {m : MethodId} {args : Array Value} {below : List Frame} {meth : Method} {c : Code} {dC : Nat → ClassId} {dI : Nat → Nat → Nat} {kA : Nat → ClassId} {ad : Nat → Nat} (C : jxc cX12_keep none 6 RX12 p s m args meth c dC dI kA) (hap : jw_ap 32 ad) {res : RS} {k12 : RS → Int64 → Int32 → Int32 → Option (RS)} (hk12 : G_rX12_keep_b12 p l e s m args below meth c dC dI kA ad res k12) : G_rX12_keep_b66 p l e s m args below meth c dC dI kA ad res (s_rX12_keep_b66 k12) := by
  obtain ⟨hx, hb, hml, hown, hts, hr, hlocks, hK, hN⟩ := id C
  intro σ x1 x3 x4 hf H locs ls hP hS hl
  unfold s_rX12_keep_b66 at hf
  refine lv_iconst (v := 0) hx hb dX12_keep_66 (by decide) ?_
  refine lv_istore (lv' := [(5, .int 0), (0, .ref (ad 0)), (1, .long x1), (3, .int x3), (4, .int x4)]) hx hb dX12_keep_67 hl (by decide) rfl (fun ls hl => ?_)
  exact (q_rX12_keep_b69 C hap hk12) σ x1 x3 x4 0 hf H locs ls hP hS (lv_sub hl [1, 2, 3, 4, 0] rfl)
def s_rX12_keep_b24 (k12 : RS → Int64 → Int32 → Int32 → Option (RS)) (k24 : RS → Int64 → Int32 → Int32 → Int32 → Option (RS)) (σ : RS) (x1 : Int64) (x3 : Int32) (x4 : Int32) (x5 : Int32) : Option (RS) := if 36 ≤ x5 then (s_rX12_keep_b66 k12 σ x1 x3 x4) else (kn_ld (rg_B σ 3) 216 (((36 * x4) + 36) + x5) (fun v1 => kn_st (rs_B σ 3 (vp_updL (rg_B σ 3) ((36 * x4) + x5).toNatClampNeg v1)) 216 ((36 * x4) + x5) (fun σ2 => kn_v (x5 + 1) (fun v3 => k24 σ2 x1 x3 x4 v3))))
set_option maxRecDepth 100000 in
set_option maxHeartbeats 4000000 in
theorem p_rX12_keep_b24 {p : Program} {l : Launch} {e : Env} {s : State} {m : MethodId} {args : Array Value} {below : List Frame} {meth : Method} {c : Code} {dC : Nat → ClassId} {dI : Nat → Nat → Nat} {kA : Nat → ClassId} {ad : Nat → Nat} (C : jxc cX12_keep none 6 RX12 p s m args meth c dC dI kA) (hap : jw_ap 32 ad) {res : RS} {k12 : RS → Int64 → Int32 → Int32 → Option (RS)} (hk12 : G_rX12_keep_b12 p l e s m args below meth c dC dI kA ad res k12) {k24 : RS → Int64 → Int32 → Int32 → Int32 → Option (RS)} (hk24 : G_rX12_keep_b24 p l e s m args below meth c dC dI kA ad res k24) : G_rX12_keep_b24 p l e s m args below meth c dC dI kA ad res (s_rX12_keep_b24 k12 k24) := by
  obtain ⟨hx, hb, hml, hown, hts, hr, hlocks, hK, hN⟩ := id C
  intro σ x1 x3 x4 x5 hf H locs ls hP hS hl
  unfold s_rX12_keep_b24 at hf
  refine lv_iload hx hb dX12_keep_24 (lv_at hl 4 rfl) ?_
  refine lv_bipush (v := 36) hx hb dX12_keep_26 (by decide) ?_
  refine jc_ge (tgt := 66) hx hb hf dX12_keep_28 (by decide) (fun hf => ?_) (fun hf => ?_)
  · exact (p_rX12_keep_b66 C hap hk12) σ x1 x3 x4 hf H locs ls hP hS (lv_sub hl [0, 1, 2, 3] rfl)
  · refine lv_aload_n hx hb dX12_keep_31 rfl (lv_at hl 0 rfl) ?_
    refine r_gX12_oldStates hx hb hts hown hK hP (hts _ kw_780) dX12_keep_32 ?_
    refine lv_bipush (v := 36) hx hb dX12_keep_35 (by decide) ?_
    refine lv_iload hx hb dX12_keep_37 (lv_at hl 3 rfl) ?_
    refine lv_imul hx hb dX12_keep_39 ?_
    refine lv_iload hx hb dX12_keep_40 (lv_at hl 4 rfl) ?_
    refine lv_iadd hx hb dX12_keep_42 ?_
    refine lv_aload_n hx hb dX12_keep_43 rfl (lv_at hl 0 rfl) ?_
    refine r_gX12_oldStates hx hb hts hown hK hP (hts _ kw_780) dX12_keep_44 ?_
    refine lv_bipush (v := 36) hx hb dX12_keep_47 (by decide) ?_
    refine lv_iload hx hb dX12_keep_49 (lv_at hl 3 rfl) ?_
    refine lv_imul hx hb dX12_keep_51 ?_
    refine lv_bipush (v := 36) hx hb dX12_keep_52 (by decide) ?_
    refine lv_iadd hx hb dX12_keep_54 ?_
    refine lv_iload hx hb dX12_keep_55 (lv_at hl 4 rfl) ?_
    refine lv_iadd hx hb dX12_keep_57 ?_
    refine ja_lld hx hb hK hP 13 1 rfl rfl hf dX12_keep_58 (fun v1 hf => ?_)
    refine ja_lst hx hb hK (r_D hap σ) hP hS 13 1 rfl rfl r_sB3 hf dX12_keep_59 (fun σ2 H locs hP hS hf => ?_)
    obtain ⟨v3, e_v3, hf⟩ := kn_v_e hf
    refine lv_iinc (v := v3) (lv' := [(5, .int v3), (0, .ref (ad 0)), (1, .long x1), (3, .int x3), (4, .int x4)]) hx hb dX12_keep_60 hl (k := 4) rfl e_v3 (by decide) rfl (fun ls hl => ?_)
    refine lv_goto (tgt := 24) hx hb dX12_keep_63 (by decide) ?_
    exact hk24 σ2 x1 x3 x4 v3 hf H locs ls hP hS (lv_sub hl [1, 2, 3, 4, 0] rfl)
def f_rX12_keep_b24 (k12 : RS → Int64 → Int32 → Int32 → Option (RS)) : RS → Int64 → Int32 → Int32 → Int32 → Option (RS) := kn_fix (fun _ _ _ _ _ => none) (s_rX12_keep_b24 k12) FU
theorem q_rX12_keep_b24 {p : Program} {l : Launch} {e : Env} {s : State} {m : MethodId} {args : Array Value} {below : List Frame} {meth : Method} {c : Code} {dC : Nat → ClassId} {dI : Nat → Nat → Nat} {kA : Nat → ClassId} {ad : Nat → Nat} (C : jxc cX12_keep none 6 RX12 p s m args meth c dC dI kA) (hap : jw_ap 32 ad) {res : RS} {k12 : RS → Int64 → Int32 → Int32 → Option (RS)} (hk12 : G_rX12_keep_b12 p l e s m args below meth c dC dI kA ad res k12) : G_rX12_keep_b24 p l e s m args below meth c dC dI kA ad res (f_rX12_keep_b24 k12) := kn_fix_ind (G := fun F => G_rX12_keep_b24 p l e s m args below meth c dC dI kA ad res F) (fun _ _ _ _ _ hf => by cases hf) (fun k24 hk24 => p_rX12_keep_b24 C hap hk12 hk24) FU
def s_rX12_keep_b12 (k12 : RS → Int64 → Int32 → Int32 → Option (RS)) (σ : RS) (x1 : Int64) (x3 : Int32) (x4 : Int32) : Option (RS) := if 6 ≤ (x4 + 1) then (s_rX12_keep_b149 σ x1 x3) else (f_rX12_keep_b24 k12 σ x1 x3 x4 0)
set_option maxRecDepth 100000 in
set_option maxHeartbeats 4000000 in
theorem p_rX12_keep_b12 {p : Program} {l : Launch} {e : Env} {s : State} {m : MethodId} {args : Array Value} {below : List Frame} {meth : Method} {c : Code} {dC : Nat → ClassId} {dI : Nat → Nat → Nat} {kA : Nat → ClassId} {ad : Nat → Nat} (C : jxc cX12_keep none 6 RX12 p s m args meth c dC dI kA) (hap : jw_ap 32 ad) {res : RS} {k12 : RS → Int64 → Int32 → Int32 → Option (RS)} (hk12 : G_rX12_keep_b12 p l e s m args below meth c dC dI kA ad res k12) : G_rX12_keep_b12 p l e s m args below meth c dC dI kA ad res (s_rX12_keep_b12 k12) := by
  obtain ⟨hx, hb, hml, hown, hts, hr, hlocks, hK, hN⟩ := id C
  intro σ x1 x3 x4 hf H locs ls hP hS hl
  unfold s_rX12_keep_b12 at hf
  refine lv_iload hx hb dX12_keep_12 (lv_at hl 3 rfl) ?_
  refine lv_iconst (v := 1) hx hb dX12_keep_14 (by decide) ?_
  refine lv_iadd hx hb dX12_keep_15 ?_
  refine lv_bipush (v := 6) hx hb dX12_keep_16 (by decide) ?_
  refine jc_ge (tgt := 149) hx hb hf dX12_keep_18 (by decide) (fun hf => ?_) (fun hf => ?_)
  · exact (p_rX12_keep_b149 C hap) σ x1 x3 hf H locs ls hP hS (lv_sub hl [0, 1, 2] rfl)
  · refine lv_iconst (v := 0) hx hb dX12_keep_21 (by decide) ?_
    refine lv_istore (lv' := [(5, .int 0), (0, .ref (ad 0)), (1, .long x1), (3, .int x3), (4, .int x4)]) hx hb dX12_keep_22 hl (by decide) rfl (fun ls hl => ?_)
    exact (q_rX12_keep_b24 C hap hk12) σ x1 x3 x4 0 hf H locs ls hP hS (lv_sub hl [1, 2, 3, 4, 0] rfl)
def f_rX12_keep_b12 : RS → Int64 → Int32 → Int32 → Option (RS) := kn_fix (fun _ _ _ _ => none) (s_rX12_keep_b12) FU
theorem q_rX12_keep_b12 {p : Program} {l : Launch} {e : Env} {s : State} {m : MethodId} {args : Array Value} {below : List Frame} {meth : Method} {c : Code} {dC : Nat → ClassId} {dI : Nat → Nat → Nat} {kA : Nat → ClassId} {ad : Nat → Nat} (C : jxc cX12_keep none 6 RX12 p s m args meth c dC dI kA) (hap : jw_ap 32 ad) {res : RS} : G_rX12_keep_b12 p l e s m args below meth c dC dI kA ad res (f_rX12_keep_b12) := kn_fix_ind (G := fun F => G_rX12_keep_b12 p l e s m args below meth c dC dI kA ad res F) (fun _ _ _ _ hf => by cases hf) (fun k12 hk12 => p_rX12_keep_b12 C hap hk12) FU
def s_rX12_keep (σ : RS) (x1 : Int64) (x3 : Int32) : Option (RS) := if (rg_I σ 7) = 6 then (f_rX12_keep_b12 σ x1 x3 0) else (s_rX12_keep_b159 σ x1 x3)
set_option maxRecDepth 100000 in
set_option maxHeartbeats 4000000 in
theorem p_rX12_keep {p : Program} {l : Launch} {e : Env} {s : State} {m : MethodId} {args : Array Value} {below : List Frame} {meth : Method} {c : Code} {dC : Nat → ClassId} {dI : Nat → Nat → Nat} {kA : Nat → ClassId} {ad : Nat → Nat} (C : jxc cX12_keep none 6 RX12 p s m args meth c dC dI kA) (hap : jw_ap 32 ad) {res : RS} : G_rX12_keep p l e s m args below meth c dC dI kA ad res (s_rX12_keep) := by
  obtain ⟨hx, hb, hml, hown, hts, hr, hlocks, hK, hN⟩ := id C
  intro σ x1 x3 hf H locs ls hP hS hl
  unfold s_rX12_keep at hf
  refine lv_aload_n hx hb dX12_keep_0 rfl (lv_at hl 0 rfl) ?_
  refine r_gX12_kept hx hb hts hown hK hP (hts _ kw_779) dX12_keep_1 ?_
  refine lv_bipush (v := 6) hx hb dX12_keep_4 (by decide) ?_
  refine jc_ne (tgt := 159) hx hb hf dX12_keep_6 (by decide) (fun hf => ?_) (fun hf => ?_)
  · exact (p_rX12_keep_b159 C hap) σ x1 x3 hf H locs ls hP hS (lv_sub hl [0, 1, 2] rfl)
  · refine lv_iconst (v := 0) hx hb dX12_keep_9 (by decide) ?_
    refine lv_istore (lv' := [(4, .int 0), (0, .ref (ad 0)), (1, .long x1), (3, .int x3)]) hx hb dX12_keep_10 hl (by decide) rfl (fun ls hl => ?_)
    exact (q_rX12_keep_b12 C hap) σ x1 x3 0 hf H locs ls hP hS (lv_sub hl [1, 2, 3, 0] rfl)
theorem c_rX12_keep (l : Launch) {dC : Nat → ClassId} {dI : Nat → Nat → Nat} {kA : Nat → ClassId} {ad : Nat → Nat} (hap : jw_ap 32 ad) (σ : RS) (x1 : Int64) (x3 : Int32) (res : RS) (hf : s_rX12_keep σ x1 x3 = some res) : jm_u l KW NW (dC, dI) vwCl (jtys kA) (jw_A 32 ad) (r_w kA ad) yX12_keep cX12_keep 6 (rm_rX12_keep) [.ref (ad 0), .long x1, .int x3] σ res := jm_u_of (by decide) (Nat.le_of_ble_eq_true rfl) (fun p e s m below meth c C hP hS ls hl => p_rX12_keep C hap σ x1 x3 hf s.heap [] ls hP hS hl)
