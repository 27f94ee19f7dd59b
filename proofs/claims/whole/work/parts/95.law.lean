/-! THE CLAIM OUT OF ONE WALK OF THE LAW'S BODY. Your part is whole_start (and what it stands on); all else here is the same for every law, but numbers. -/
def R_law : String := "WalkedRoundsLaw"
def lw_P (b : Addr) (xs : List Int32) (args : Array Value) (s : State) : Prop := args = #[.ref b] ∧ s.IntsAt b xs ∧ xs.length ≤ 3584 ∧ (Jvm.Cond.and given_1 narrow_1).before args s = true
def lw_Q (_ : Array Value) (s : State) (o : Outcome) (t : State) : Prop := o = .returned (some (.int 1)) ∧ Framed s o t [] 600000 7302250
def lw_Z (below : List Frame) (a : Array Value) (s : State) : State → Prop := fun t => ∃ o, t.status = .running ∧ Ended t below o ∧ lw_Q a s o t
/-- the law's own end, with 1 on the stack, nothing written that was there before, its room as the claim has it -/
theorem lw_ret {p : Program} {l : Launch} {e : Env} {s : State} {m : MethodId} {below : List Frame} {meth : Method} {c : Code} {b : Nat} (hx : p.tables.exec = Jvm.exec) (hb : c.code = code) (hr : meth.sig.returnType = ret) (hlocks : meth.locks = false) {pc : Nat} {H : Heap} {ls : Array Slot} (hdg : decode code pc = .ok (.ireturn, 1)) : W p l e room_1 s m #[Value.ref b] below meth c H [] 600000 7302250 (lw_Z below #[Value.ref b] s) (F0 m pc ls [.int 1]) := by
  intro T hT X
  obtain ⟨fs, hret, hrun, hended, hW, hframe⟩ := X.leave (v := some (.int 1)) (hlocks := hlocks) (fun h => by rw [hr] at h; cases h)
  have hmeth' : T.vm.method? m = some meth := X.method'
  refine ⟨T.setFrames fs, ?_, .returned (some (.int 1)), hrun, hended, rfl, ⟨_, rfl⟩, hW, hframe⟩
  jvm_step X.here [X.here.top, hx, hb, hdg, hmeth', hr, ret, narrow_b1]
  (try refine ⟨rfl, ?_⟩); (try refine ⟨rfl, ?_⟩)
  first | (intro acts; rw [hret _ acts rfl rfl rfl]) | rw [hret _ _ rfl rfl rfl]
  exact Steps.refl _
/-- what holds at the law's entry: the machine, the code, the tables' words (any of lw_tbl by 'hts w (by decide +kernel)'), the script of L ints xs at the cell b, what the Statement gives of the start (any of its parts by flat_of_before) -/
def lw_At (p : Program) (s : State) (m : MethodId) (meth : Method) (c : Code) (b L : Nat) (xs : Nat → Int32) : Prop :=
  p.tables.exec = Jvm.exec ∧ c.code = code ∧ meth.sig.returnType = ret ∧ c.maxLocals = 4 ∧ s.vm.findClass R_law = some m.cls ∧ (∀ w ∈ lw_tbl, w.before #[Value.ref b] s = true) ∧ va_X b L xs s s.heap ∧ b < s.heap.size ∧ meth.locks = false ∧ (Jvm.Cond.and given_1 narrow_1).before #[Value.ref b] s = true
theorem dL_law_0 : decode cL_law 0 = .ok (.new 7, 3) := by decide +kernel
theorem dL_law_3 : decode cL_law 3 = .ok (.dup, 1) := by decide +kernel
theorem dL_law_4 : decode cL_law 4 = .ok (.invokespecial 9, 3) := by decide +kernel
theorem dL_law_7 : decode cL_law 7 = .ok (.astore_n 1, 1) := by decide +kernel
theorem dL_law_8 : decode cL_law 8 = .ok (.new 10, 3) := by decide +kernel
theorem dL_law_11 : decode cL_law 11 = .ok (.dup, 1) := by decide +kernel
theorem dL_law_12 : decode cL_law 12 = .ok (.invokespecial 12, 3) := by decide +kernel
theorem dL_law_15 : decode cL_law 15 = .ok (.astore_n 2, 1) := by decide +kernel
theorem dL_law_16 : decode cL_law 16 = .ok (.iconst 0, 1) := by decide +kernel
theorem dL_law_17 : decode cL_law 17 = .ok (.istore_n 3, 1) := by decide +kernel
theorem dL_law_18 : decode cL_law 18 = .ok (.iload_n 3, 1) := by decide +kernel
theorem dL_law_19 : decode cL_law 19 = .ok (.aload_n 0, 1) := by decide +kernel
theorem dL_law_20 : decode cL_law 20 = .ok (.arraylength, 1) := by decide +kernel
theorem dL_law_21 : decode cL_law 21 = .ok (.bipush 7, 2) := by decide +kernel
theorem dL_law_23 : decode cL_law 23 = .ok (.isub, 1) := by decide +kernel
theorem dL_law_24 : decode cL_law 24 = .ok (.if_icmp .gt 728, 3) := by decide +kernel
theorem dL_law_27 : decode cL_law 27 = .ok (.aload_n 0, 1) := by decide +kernel
theorem dL_law_28 : decode cL_law 28 = .ok (.iload_n 3, 1) := by decide +kernel
theorem dL_law_29 : decode cL_law 29 = .ok (.iaload, 1) := by decide +kernel
theorem dL_law_30 : decode cL_law 30 = .ok (.bipush 31, 2) := by decide +kernel
theorem dL_law_32 : decode cL_law 32 = .ok (.iand, 1) := by decide +kernel
theorem dL_law_33 : decode cL_law 33 = .ok (.tableswitch 713 0 17 #[87, 182, 195, 268, 341, 390, 423, 446, 479, 492, 515, 559, 572, 606, 620, 643, 666, 690], 87) := by decide +kernel
theorem dL_law_120 : decode cL_law 120 = .ok (.aload_n 1, 1) := by decide +kernel
theorem dL_law_121 : decode cL_law 121 = .ok (.aload_n 0, 1) := by decide +kernel
theorem dL_law_122 : decode cL_law 122 = .ok (.iload_n 3, 1) := by decide +kernel
theorem dL_law_123 : decode cL_law 123 = .ok (.iconst 1, 1) := by decide +kernel
theorem dL_law_124 : decode cL_law 124 = .ok (.iadd, 1) := by decide +kernel
theorem dL_law_125 : decode cL_law 125 = .ok (.iaload, 1) := by decide +kernel
theorem dL_law_126 : decode cL_law 126 = .ok (.aload_n 0, 1) := by decide +kernel
theorem dL_law_127 : decode cL_law 127 = .ok (.iload_n 3, 1) := by decide +kernel
theorem dL_law_128 : decode cL_law 128 = .ok (.iconst 2, 1) := by decide +kernel
theorem dL_law_129 : decode cL_law 129 = .ok (.iadd, 1) := by decide +kernel
theorem dL_law_130 : decode cL_law 130 = .ok (.iaload, 1) := by decide +kernel
theorem dL_law_131 : decode cL_law 131 = .ok (.aload_n 0, 1) := by decide +kernel
theorem dL_law_132 : decode cL_law 132 = .ok (.iload_n 3, 1) := by decide +kernel
theorem dL_law_133 : decode cL_law 133 = .ok (.iconst 3, 1) := by decide +kernel
theorem dL_law_134 : decode cL_law 134 = .ok (.iadd, 1) := by decide +kernel
theorem dL_law_135 : decode cL_law 135 = .ok (.iaload, 1) := by decide +kernel
theorem dL_law_136 : decode cL_law 136 = .ok (.aload_n 0, 1) := by decide +kernel
theorem dL_law_137 : decode cL_law 137 = .ok (.iload_n 3, 1) := by decide +kernel
theorem dL_law_138 : decode cL_law 138 = .ok (.iconst 4, 1) := by decide +kernel
theorem dL_law_139 : decode cL_law 139 = .ok (.iadd, 1) := by decide +kernel
theorem dL_law_140 : decode cL_law 140 = .ok (.iaload, 1) := by decide +kernel
theorem dL_law_141 : decode cL_law 141 = .ok (.aload_n 0, 1) := by decide +kernel
theorem dL_law_142 : decode cL_law 142 = .ok (.iload_n 3, 1) := by decide +kernel
theorem dL_law_143 : decode cL_law 143 = .ok (.iconst 5, 1) := by decide +kernel
theorem dL_law_144 : decode cL_law 144 = .ok (.iadd, 1) := by decide +kernel
theorem dL_law_145 : decode cL_law 145 = .ok (.iaload, 1) := by decide +kernel
theorem dL_law_146 : decode cL_law 146 = .ok (.i2l, 1) := by decide +kernel
theorem dL_law_147 : decode cL_law 147 = .ok (.bipush 32, 2) := by decide +kernel
theorem dL_law_149 : decode cL_law 149 = .ok (.lshl, 1) := by decide +kernel
theorem dL_law_150 : decode cL_law 150 = .ok (.aload_n 0, 1) := by decide +kernel
theorem dL_law_151 : decode cL_law 151 = .ok (.iload_n 3, 1) := by decide +kernel
theorem dL_law_152 : decode cL_law 152 = .ok (.bipush 6, 2) := by decide +kernel
theorem dL_law_154 : decode cL_law 154 = .ok (.iadd, 1) := by decide +kernel
theorem dL_law_155 : decode cL_law 155 = .ok (.iaload, 1) := by decide +kernel
theorem dL_law_156 : decode cL_law 156 = .ok (.i2l, 1) := by decide +kernel
theorem dL_law_157 : decode cL_law 157 = .ok (.ldc2_w 13, 3) := by decide +kernel
theorem dL_law_160 : decode cL_law 160 = .ok (.land, 1) := by decide +kernel
theorem dL_law_161 : decode cL_law 161 = .ok (.lor, 1) := by decide +kernel
theorem dL_law_162 : decode cL_law 162 = .ok (.invokevirtual 15, 3) := by decide +kernel
theorem dL_law_165 : decode cL_law 165 = .ok (.aload_n 2, 1) := by decide +kernel
theorem dL_law_166 : decode cL_law 166 = .ok (.aload_n 0, 1) := by decide +kernel
theorem dL_law_167 : decode cL_law 167 = .ok (.iload_n 3, 1) := by decide +kernel
theorem dL_law_168 : decode cL_law 168 = .ok (.iconst 1, 1) := by decide +kernel
theorem dL_law_169 : decode cL_law 169 = .ok (.iadd, 1) := by decide +kernel
theorem dL_law_170 : decode cL_law 170 = .ok (.iaload, 1) := by decide +kernel
theorem dL_law_171 : decode cL_law 171 = .ok (.aload_n 0, 1) := by decide +kernel
theorem dL_law_172 : decode cL_law 172 = .ok (.iload_n 3, 1) := by decide +kernel
theorem dL_law_173 : decode cL_law 173 = .ok (.iconst 2, 1) := by decide +kernel
theorem dL_law_174 : decode cL_law 174 = .ok (.iadd, 1) := by decide +kernel
theorem dL_law_175 : decode cL_law 175 = .ok (.iaload, 1) := by decide +kernel
theorem dL_law_176 : decode cL_law 176 = .ok (.aload_n 0, 1) := by decide +kernel
theorem dL_law_177 : decode cL_law 177 = .ok (.iload_n 3, 1) := by decide +kernel
theorem dL_law_178 : decode cL_law 178 = .ok (.iconst 3, 1) := by decide +kernel
theorem dL_law_179 : decode cL_law 179 = .ok (.iadd, 1) := by decide +kernel
theorem dL_law_180 : decode cL_law 180 = .ok (.iaload, 1) := by decide +kernel
theorem dL_law_181 : decode cL_law 181 = .ok (.aload_n 0, 1) := by decide +kernel
theorem dL_law_182 : decode cL_law 182 = .ok (.iload_n 3, 1) := by decide +kernel
theorem dL_law_183 : decode cL_law 183 = .ok (.iconst 4, 1) := by decide +kernel
theorem dL_law_184 : decode cL_law 184 = .ok (.iadd, 1) := by decide +kernel
theorem dL_law_185 : decode cL_law 185 = .ok (.iaload, 1) := by decide +kernel
theorem dL_law_186 : decode cL_law 186 = .ok (.aload_n 0, 1) := by decide +kernel
theorem dL_law_187 : decode cL_law 187 = .ok (.iload_n 3, 1) := by decide +kernel
theorem dL_law_188 : decode cL_law 188 = .ok (.iconst 5, 1) := by decide +kernel
theorem dL_law_189 : decode cL_law 189 = .ok (.iadd, 1) := by decide +kernel
theorem dL_law_190 : decode cL_law 190 = .ok (.iaload, 1) := by decide +kernel
theorem dL_law_191 : decode cL_law 191 = .ok (.i2l, 1) := by decide +kernel
theorem dL_law_192 : decode cL_law 192 = .ok (.bipush 32, 2) := by decide +kernel
theorem dL_law_194 : decode cL_law 194 = .ok (.lshl, 1) := by decide +kernel
theorem dL_law_195 : decode cL_law 195 = .ok (.aload_n 0, 1) := by decide +kernel
theorem dL_law_196 : decode cL_law 196 = .ok (.iload_n 3, 1) := by decide +kernel
theorem dL_law_197 : decode cL_law 197 = .ok (.bipush 6, 2) := by decide +kernel
theorem dL_law_199 : decode cL_law 199 = .ok (.iadd, 1) := by decide +kernel
theorem dL_law_200 : decode cL_law 200 = .ok (.iaload, 1) := by decide +kernel
theorem dL_law_201 : decode cL_law 201 = .ok (.i2l, 1) := by decide +kernel
theorem dL_law_202 : decode cL_law 202 = .ok (.ldc2_w 13, 3) := by decide +kernel
theorem dL_law_205 : decode cL_law 205 = .ok (.land, 1) := by decide +kernel
theorem dL_law_206 : decode cL_law 206 = .ok (.lor, 1) := by decide +kernel
theorem dL_law_207 : decode cL_law 207 = .ok (.invokevirtual 19, 3) := by decide +kernel
theorem dL_law_210 : decode cL_law 210 = .ok (.if_icmp .eq 536, 3) := by decide +kernel
theorem dL_law_213 : decode cL_law 213 = .ok (.iconst 0, 1) := by decide +kernel
theorem dL_law_214 : decode cL_law 214 = .ok (.ireturn, 1) := by decide +kernel
theorem dL_law_215 : decode cL_law 215 = .ok (.aload_n 1, 1) := by decide +kernel
theorem dL_law_216 : decode cL_law 216 = .ok (.invokevirtual 20, 3) := by decide +kernel
theorem dL_law_219 : decode cL_law 219 = .ok (.aload_n 2, 1) := by decide +kernel
theorem dL_law_220 : decode cL_law 220 = .ok (.invokevirtual 24, 3) := by decide +kernel
theorem dL_law_223 : decode cL_law 223 = .ok (.if_icmp .eq 523, 3) := by decide +kernel
theorem dL_law_226 : decode cL_law 226 = .ok (.iconst 0, 1) := by decide +kernel
theorem dL_law_227 : decode cL_law 227 = .ok (.ireturn, 1) := by decide +kernel
theorem dL_law_228 : decode cL_law 228 = .ok (.aload_n 1, 1) := by decide +kernel
theorem dL_law_229 : decode cL_law 229 = .ok (.aload_n 0, 1) := by decide +kernel
theorem dL_law_230 : decode cL_law 230 = .ok (.iload_n 3, 1) := by decide +kernel
theorem dL_law_231 : decode cL_law 231 = .ok (.iconst 1, 1) := by decide +kernel
theorem dL_law_232 : decode cL_law 232 = .ok (.iadd, 1) := by decide +kernel
theorem dL_law_233 : decode cL_law 233 = .ok (.iaload, 1) := by decide +kernel
theorem dL_law_234 : decode cL_law 234 = .ok (.aload_n 0, 1) := by decide +kernel
theorem dL_law_235 : decode cL_law 235 = .ok (.iload_n 3, 1) := by decide +kernel
theorem dL_law_236 : decode cL_law 236 = .ok (.iconst 2, 1) := by decide +kernel
theorem dL_law_237 : decode cL_law 237 = .ok (.iadd, 1) := by decide +kernel
theorem dL_law_238 : decode cL_law 238 = .ok (.iaload, 1) := by decide +kernel
theorem dL_law_239 : decode cL_law 239 = .ok (.aload_n 0, 1) := by decide +kernel
theorem dL_law_240 : decode cL_law 240 = .ok (.iload_n 3, 1) := by decide +kernel
theorem dL_law_241 : decode cL_law 241 = .ok (.iconst 3, 1) := by decide +kernel
theorem dL_law_242 : decode cL_law 242 = .ok (.iadd, 1) := by decide +kernel
theorem dL_law_243 : decode cL_law 243 = .ok (.iaload, 1) := by decide +kernel
theorem dL_law_244 : decode cL_law 244 = .ok (.i2l, 1) := by decide +kernel
theorem dL_law_245 : decode cL_law 245 = .ok (.bipush 32, 2) := by decide +kernel
theorem dL_law_247 : decode cL_law 247 = .ok (.lshl, 1) := by decide +kernel
theorem dL_law_248 : decode cL_law 248 = .ok (.aload_n 0, 1) := by decide +kernel
theorem dL_law_249 : decode cL_law 249 = .ok (.iload_n 3, 1) := by decide +kernel
theorem dL_law_250 : decode cL_law 250 = .ok (.iconst 4, 1) := by decide +kernel
theorem dL_law_251 : decode cL_law 251 = .ok (.iadd, 1) := by decide +kernel
theorem dL_law_252 : decode cL_law 252 = .ok (.iaload, 1) := by decide +kernel
theorem dL_law_253 : decode cL_law 253 = .ok (.i2l, 1) := by decide +kernel
theorem dL_law_254 : decode cL_law 254 = .ok (.ldc2_w 13, 3) := by decide +kernel
theorem dL_law_257 : decode cL_law 257 = .ok (.land, 1) := by decide +kernel
theorem dL_law_258 : decode cL_law 258 = .ok (.lor, 1) := by decide +kernel
theorem dL_law_259 : decode cL_law 259 = .ok (.invokevirtual 25, 3) := by decide +kernel
theorem dL_law_262 : decode cL_law 262 = .ok (.aload_n 2, 1) := by decide +kernel
theorem dL_law_263 : decode cL_law 263 = .ok (.aload_n 0, 1) := by decide +kernel
theorem dL_law_264 : decode cL_law 264 = .ok (.iload_n 3, 1) := by decide +kernel
theorem dL_law_265 : decode cL_law 265 = .ok (.iconst 1, 1) := by decide +kernel
theorem dL_law_266 : decode cL_law 266 = .ok (.iadd, 1) := by decide +kernel
theorem dL_law_267 : decode cL_law 267 = .ok (.iaload, 1) := by decide +kernel
theorem dL_law_268 : decode cL_law 268 = .ok (.aload_n 0, 1) := by decide +kernel
theorem dL_law_269 : decode cL_law 269 = .ok (.iload_n 3, 1) := by decide +kernel
theorem dL_law_270 : decode cL_law 270 = .ok (.iconst 2, 1) := by decide +kernel
theorem dL_law_271 : decode cL_law 271 = .ok (.iadd, 1) := by decide +kernel
theorem dL_law_272 : decode cL_law 272 = .ok (.iaload, 1) := by decide +kernel
theorem dL_law_273 : decode cL_law 273 = .ok (.aload_n 0, 1) := by decide +kernel
theorem dL_law_274 : decode cL_law 274 = .ok (.iload_n 3, 1) := by decide +kernel
theorem dL_law_275 : decode cL_law 275 = .ok (.iconst 3, 1) := by decide +kernel
theorem dL_law_276 : decode cL_law 276 = .ok (.iadd, 1) := by decide +kernel
theorem dL_law_277 : decode cL_law 277 = .ok (.iaload, 1) := by decide +kernel
theorem dL_law_278 : decode cL_law 278 = .ok (.i2l, 1) := by decide +kernel
theorem dL_law_279 : decode cL_law 279 = .ok (.bipush 32, 2) := by decide +kernel
theorem dL_law_281 : decode cL_law 281 = .ok (.lshl, 1) := by decide +kernel
theorem dL_law_282 : decode cL_law 282 = .ok (.aload_n 0, 1) := by decide +kernel
theorem dL_law_283 : decode cL_law 283 = .ok (.iload_n 3, 1) := by decide +kernel
theorem dL_law_284 : decode cL_law 284 = .ok (.iconst 4, 1) := by decide +kernel
theorem dL_law_285 : decode cL_law 285 = .ok (.iadd, 1) := by decide +kernel
theorem dL_law_286 : decode cL_law 286 = .ok (.iaload, 1) := by decide +kernel
theorem dL_law_287 : decode cL_law 287 = .ok (.i2l, 1) := by decide +kernel
theorem dL_law_288 : decode cL_law 288 = .ok (.ldc2_w 13, 3) := by decide +kernel
theorem dL_law_291 : decode cL_law 291 = .ok (.land, 1) := by decide +kernel
theorem dL_law_292 : decode cL_law 292 = .ok (.lor, 1) := by decide +kernel
theorem dL_law_293 : decode cL_law 293 = .ok (.invokevirtual 29, 3) := by decide +kernel
theorem dL_law_296 : decode cL_law 296 = .ok (.if_icmp .eq 450, 3) := by decide +kernel
theorem dL_law_299 : decode cL_law 299 = .ok (.iconst 0, 1) := by decide +kernel
theorem dL_law_300 : decode cL_law 300 = .ok (.ireturn, 1) := by decide +kernel
theorem dL_law_301 : decode cL_law 301 = .ok (.aload_n 1, 1) := by decide +kernel
theorem dL_law_302 : decode cL_law 302 = .ok (.aload_n 0, 1) := by decide +kernel
theorem dL_law_303 : decode cL_law 303 = .ok (.iload_n 3, 1) := by decide +kernel
theorem dL_law_304 : decode cL_law 304 = .ok (.iconst 1, 1) := by decide +kernel
theorem dL_law_305 : decode cL_law 305 = .ok (.iadd, 1) := by decide +kernel
theorem dL_law_306 : decode cL_law 306 = .ok (.iaload, 1) := by decide +kernel
theorem dL_law_307 : decode cL_law 307 = .ok (.aload_n 0, 1) := by decide +kernel
theorem dL_law_308 : decode cL_law 308 = .ok (.iload_n 3, 1) := by decide +kernel
theorem dL_law_309 : decode cL_law 309 = .ok (.iconst 2, 1) := by decide +kernel
theorem dL_law_310 : decode cL_law 310 = .ok (.iadd, 1) := by decide +kernel
theorem dL_law_311 : decode cL_law 311 = .ok (.iaload, 1) := by decide +kernel
theorem dL_law_312 : decode cL_law 312 = .ok (.aload_n 0, 1) := by decide +kernel
theorem dL_law_313 : decode cL_law 313 = .ok (.iload_n 3, 1) := by decide +kernel
theorem dL_law_314 : decode cL_law 314 = .ok (.iconst 3, 1) := by decide +kernel
theorem dL_law_315 : decode cL_law 315 = .ok (.iadd, 1) := by decide +kernel
theorem dL_law_316 : decode cL_law 316 = .ok (.iaload, 1) := by decide +kernel
theorem dL_law_317 : decode cL_law 317 = .ok (.i2l, 1) := by decide +kernel
theorem dL_law_318 : decode cL_law 318 = .ok (.bipush 32, 2) := by decide +kernel
theorem dL_law_320 : decode cL_law 320 = .ok (.lshl, 1) := by decide +kernel
theorem dL_law_321 : decode cL_law 321 = .ok (.aload_n 0, 1) := by decide +kernel
theorem dL_law_322 : decode cL_law 322 = .ok (.iload_n 3, 1) := by decide +kernel
theorem dL_law_323 : decode cL_law 323 = .ok (.iconst 4, 1) := by decide +kernel
theorem dL_law_324 : decode cL_law 324 = .ok (.iadd, 1) := by decide +kernel
theorem dL_law_325 : decode cL_law 325 = .ok (.iaload, 1) := by decide +kernel
theorem dL_law_326 : decode cL_law 326 = .ok (.i2l, 1) := by decide +kernel
theorem dL_law_327 : decode cL_law 327 = .ok (.ldc2_w 13, 3) := by decide +kernel
theorem dL_law_330 : decode cL_law 330 = .ok (.land, 1) := by decide +kernel
theorem dL_law_331 : decode cL_law 331 = .ok (.lor, 1) := by decide +kernel
theorem dL_law_332 : decode cL_law 332 = .ok (.invokevirtual 30, 3) := by decide +kernel
theorem dL_law_335 : decode cL_law 335 = .ok (.aload_n 2, 1) := by decide +kernel
theorem dL_law_336 : decode cL_law 336 = .ok (.aload_n 0, 1) := by decide +kernel
theorem dL_law_337 : decode cL_law 337 = .ok (.iload_n 3, 1) := by decide +kernel
theorem dL_law_338 : decode cL_law 338 = .ok (.iconst 1, 1) := by decide +kernel
theorem dL_law_339 : decode cL_law 339 = .ok (.iadd, 1) := by decide +kernel
theorem dL_law_340 : decode cL_law 340 = .ok (.iaload, 1) := by decide +kernel
theorem dL_law_341 : decode cL_law 341 = .ok (.aload_n 0, 1) := by decide +kernel
theorem dL_law_342 : decode cL_law 342 = .ok (.iload_n 3, 1) := by decide +kernel
theorem dL_law_343 : decode cL_law 343 = .ok (.iconst 2, 1) := by decide +kernel
theorem dL_law_344 : decode cL_law 344 = .ok (.iadd, 1) := by decide +kernel
theorem dL_law_345 : decode cL_law 345 = .ok (.iaload, 1) := by decide +kernel
theorem dL_law_346 : decode cL_law 346 = .ok (.aload_n 0, 1) := by decide +kernel
theorem dL_law_347 : decode cL_law 347 = .ok (.iload_n 3, 1) := by decide +kernel
theorem dL_law_348 : decode cL_law 348 = .ok (.iconst 3, 1) := by decide +kernel
theorem dL_law_349 : decode cL_law 349 = .ok (.iadd, 1) := by decide +kernel
theorem dL_law_350 : decode cL_law 350 = .ok (.iaload, 1) := by decide +kernel
theorem dL_law_351 : decode cL_law 351 = .ok (.i2l, 1) := by decide +kernel
theorem dL_law_352 : decode cL_law 352 = .ok (.bipush 32, 2) := by decide +kernel
theorem dL_law_354 : decode cL_law 354 = .ok (.lshl, 1) := by decide +kernel
theorem dL_law_355 : decode cL_law 355 = .ok (.aload_n 0, 1) := by decide +kernel
theorem dL_law_356 : decode cL_law 356 = .ok (.iload_n 3, 1) := by decide +kernel
theorem dL_law_357 : decode cL_law 357 = .ok (.iconst 4, 1) := by decide +kernel
theorem dL_law_358 : decode cL_law 358 = .ok (.iadd, 1) := by decide +kernel
theorem dL_law_359 : decode cL_law 359 = .ok (.iaload, 1) := by decide +kernel
theorem dL_law_360 : decode cL_law 360 = .ok (.i2l, 1) := by decide +kernel
theorem dL_law_361 : decode cL_law 361 = .ok (.ldc2_w 13, 3) := by decide +kernel
theorem dL_law_364 : decode cL_law 364 = .ok (.land, 1) := by decide +kernel
theorem dL_law_365 : decode cL_law 365 = .ok (.lor, 1) := by decide +kernel
theorem dL_law_366 : decode cL_law 366 = .ok (.invokevirtual 33, 3) := by decide +kernel
theorem dL_law_369 : decode cL_law 369 = .ok (.if_icmp .eq 377, 3) := by decide +kernel
theorem dL_law_372 : decode cL_law 372 = .ok (.iconst 0, 1) := by decide +kernel
theorem dL_law_373 : decode cL_law 373 = .ok (.ireturn, 1) := by decide +kernel
theorem dL_law_374 : decode cL_law 374 = .ok (.aload_n 1, 1) := by decide +kernel
theorem dL_law_375 : decode cL_law 375 = .ok (.aload_n 0, 1) := by decide +kernel
theorem dL_law_376 : decode cL_law 376 = .ok (.iload_n 3, 1) := by decide +kernel
theorem dL_law_377 : decode cL_law 377 = .ok (.iconst 1, 1) := by decide +kernel
theorem dL_law_378 : decode cL_law 378 = .ok (.iadd, 1) := by decide +kernel
theorem dL_law_379 : decode cL_law 379 = .ok (.iaload, 1) := by decide +kernel
theorem dL_law_380 : decode cL_law 380 = .ok (.aload_n 0, 1) := by decide +kernel
theorem dL_law_381 : decode cL_law 381 = .ok (.iload_n 3, 1) := by decide +kernel
theorem dL_law_382 : decode cL_law 382 = .ok (.iconst 2, 1) := by decide +kernel
theorem dL_law_383 : decode cL_law 383 = .ok (.iadd, 1) := by decide +kernel
theorem dL_law_384 : decode cL_law 384 = .ok (.iaload, 1) := by decide +kernel
theorem dL_law_385 : decode cL_law 385 = .ok (.ifCond .eq 7, 3) := by decide +kernel
theorem dL_law_388 : decode cL_law 388 = .ok (.iconst 1, 1) := by decide +kernel
theorem dL_law_389 : decode cL_law 389 = .ok (.goto 4, 3) := by decide +kernel
theorem dL_law_392 : decode cL_law 392 = .ok (.iconst 0, 1) := by decide +kernel
theorem dL_law_393 : decode cL_law 393 = .ok (.invokevirtual 34, 3) := by decide +kernel
theorem dL_law_396 : decode cL_law 396 = .ok (.aload_n 2, 1) := by decide +kernel
theorem dL_law_397 : decode cL_law 397 = .ok (.aload_n 0, 1) := by decide +kernel
theorem dL_law_398 : decode cL_law 398 = .ok (.iload_n 3, 1) := by decide +kernel
theorem dL_law_399 : decode cL_law 399 = .ok (.iconst 1, 1) := by decide +kernel
theorem dL_law_400 : decode cL_law 400 = .ok (.iadd, 1) := by decide +kernel
theorem dL_law_401 : decode cL_law 401 = .ok (.iaload, 1) := by decide +kernel
theorem dL_law_402 : decode cL_law 402 = .ok (.aload_n 0, 1) := by decide +kernel
theorem dL_law_403 : decode cL_law 403 = .ok (.iload_n 3, 1) := by decide +kernel
theorem dL_law_404 : decode cL_law 404 = .ok (.iconst 2, 1) := by decide +kernel
theorem dL_law_405 : decode cL_law 405 = .ok (.iadd, 1) := by decide +kernel
theorem dL_law_406 : decode cL_law 406 = .ok (.iaload, 1) := by decide +kernel
theorem dL_law_407 : decode cL_law 407 = .ok (.ifCond .eq 7, 3) := by decide +kernel
theorem dL_law_410 : decode cL_law 410 = .ok (.iconst 1, 1) := by decide +kernel
theorem dL_law_411 : decode cL_law 411 = .ok (.goto 4, 3) := by decide +kernel
theorem dL_law_414 : decode cL_law 414 = .ok (.iconst 0, 1) := by decide +kernel
theorem dL_law_415 : decode cL_law 415 = .ok (.invokevirtual 38, 3) := by decide +kernel
theorem dL_law_418 : decode cL_law 418 = .ok (.if_icmp .eq 328, 3) := by decide +kernel
theorem dL_law_421 : decode cL_law 421 = .ok (.iconst 0, 1) := by decide +kernel
theorem dL_law_422 : decode cL_law 422 = .ok (.ireturn, 1) := by decide +kernel
theorem dL_law_423 : decode cL_law 423 = .ok (.aload_n 1, 1) := by decide +kernel
theorem dL_law_424 : decode cL_law 424 = .ok (.aload_n 0, 1) := by decide +kernel
theorem dL_law_425 : decode cL_law 425 = .ok (.iload_n 3, 1) := by decide +kernel
theorem dL_law_426 : decode cL_law 426 = .ok (.iconst 1, 1) := by decide +kernel
theorem dL_law_427 : decode cL_law 427 = .ok (.iadd, 1) := by decide +kernel
theorem dL_law_428 : decode cL_law 428 = .ok (.iaload, 1) := by decide +kernel
theorem dL_law_429 : decode cL_law 429 = .ok (.aload_n 0, 1) := by decide +kernel
theorem dL_law_430 : decode cL_law 430 = .ok (.iload_n 3, 1) := by decide +kernel
theorem dL_law_431 : decode cL_law 431 = .ok (.iconst 2, 1) := by decide +kernel
theorem dL_law_432 : decode cL_law 432 = .ok (.iadd, 1) := by decide +kernel
theorem dL_law_433 : decode cL_law 433 = .ok (.iaload, 1) := by decide +kernel
theorem dL_law_434 : decode cL_law 434 = .ok (.invokevirtual 39, 3) := by decide +kernel
theorem dL_law_437 : decode cL_law 437 = .ok (.aload_n 2, 1) := by decide +kernel
theorem dL_law_438 : decode cL_law 438 = .ok (.aload_n 0, 1) := by decide +kernel
theorem dL_law_439 : decode cL_law 439 = .ok (.iload_n 3, 1) := by decide +kernel
theorem dL_law_440 : decode cL_law 440 = .ok (.iconst 1, 1) := by decide +kernel
theorem dL_law_441 : decode cL_law 441 = .ok (.iadd, 1) := by decide +kernel
theorem dL_law_442 : decode cL_law 442 = .ok (.iaload, 1) := by decide +kernel
theorem dL_law_443 : decode cL_law 443 = .ok (.aload_n 0, 1) := by decide +kernel
theorem dL_law_444 : decode cL_law 444 = .ok (.iload_n 3, 1) := by decide +kernel
theorem dL_law_445 : decode cL_law 445 = .ok (.iconst 2, 1) := by decide +kernel
theorem dL_law_446 : decode cL_law 446 = .ok (.iadd, 1) := by decide +kernel
theorem dL_law_447 : decode cL_law 447 = .ok (.iaload, 1) := by decide +kernel
theorem dL_law_448 : decode cL_law 448 = .ok (.invokevirtual 43, 3) := by decide +kernel
theorem dL_law_451 : decode cL_law 451 = .ok (.if_icmp .eq 295, 3) := by decide +kernel
theorem dL_law_454 : decode cL_law 454 = .ok (.iconst 0, 1) := by decide +kernel
theorem dL_law_455 : decode cL_law 455 = .ok (.ireturn, 1) := by decide +kernel
theorem dL_law_456 : decode cL_law 456 = .ok (.aload_n 1, 1) := by decide +kernel
theorem dL_law_457 : decode cL_law 457 = .ok (.aload_n 0, 1) := by decide +kernel
theorem dL_law_458 : decode cL_law 458 = .ok (.iload_n 3, 1) := by decide +kernel
theorem dL_law_459 : decode cL_law 459 = .ok (.iconst 1, 1) := by decide +kernel
theorem dL_law_460 : decode cL_law 460 = .ok (.iadd, 1) := by decide +kernel
theorem dL_law_461 : decode cL_law 461 = .ok (.iaload, 1) := by decide +kernel
theorem dL_law_462 : decode cL_law 462 = .ok (.invokevirtual 44, 3) := by decide +kernel
theorem dL_law_465 : decode cL_law 465 = .ok (.aload_n 2, 1) := by decide +kernel
theorem dL_law_466 : decode cL_law 466 = .ok (.aload_n 0, 1) := by decide +kernel
theorem dL_law_467 : decode cL_law 467 = .ok (.iload_n 3, 1) := by decide +kernel
theorem dL_law_468 : decode cL_law 468 = .ok (.iconst 1, 1) := by decide +kernel
theorem dL_law_469 : decode cL_law 469 = .ok (.iadd, 1) := by decide +kernel
theorem dL_law_470 : decode cL_law 470 = .ok (.iaload, 1) := by decide +kernel
theorem dL_law_471 : decode cL_law 471 = .ok (.invokevirtual 48, 3) := by decide +kernel
theorem dL_law_474 : decode cL_law 474 = .ok (.if_icmp .eq 272, 3) := by decide +kernel
theorem dL_law_477 : decode cL_law 477 = .ok (.iconst 0, 1) := by decide +kernel
theorem dL_law_478 : decode cL_law 478 = .ok (.ireturn, 1) := by decide +kernel
theorem dL_law_479 : decode cL_law 479 = .ok (.aload_n 1, 1) := by decide +kernel
theorem dL_law_480 : decode cL_law 480 = .ok (.aload_n 0, 1) := by decide +kernel
theorem dL_law_481 : decode cL_law 481 = .ok (.iload_n 3, 1) := by decide +kernel
theorem dL_law_482 : decode cL_law 482 = .ok (.iconst 1, 1) := by decide +kernel
theorem dL_law_483 : decode cL_law 483 = .ok (.iadd, 1) := by decide +kernel
theorem dL_law_484 : decode cL_law 484 = .ok (.iaload, 1) := by decide +kernel
theorem dL_law_485 : decode cL_law 485 = .ok (.aload_n 0, 1) := by decide +kernel
theorem dL_law_486 : decode cL_law 486 = .ok (.iload_n 3, 1) := by decide +kernel
theorem dL_law_487 : decode cL_law 487 = .ok (.iconst 2, 1) := by decide +kernel
theorem dL_law_488 : decode cL_law 488 = .ok (.iadd, 1) := by decide +kernel
theorem dL_law_489 : decode cL_law 489 = .ok (.iaload, 1) := by decide +kernel
theorem dL_law_490 : decode cL_law 490 = .ok (.invokevirtual 49, 3) := by decide +kernel
theorem dL_law_493 : decode cL_law 493 = .ok (.aload_n 2, 1) := by decide +kernel
theorem dL_law_494 : decode cL_law 494 = .ok (.aload_n 0, 1) := by decide +kernel
theorem dL_law_495 : decode cL_law 495 = .ok (.iload_n 3, 1) := by decide +kernel
theorem dL_law_496 : decode cL_law 496 = .ok (.iconst 1, 1) := by decide +kernel
theorem dL_law_497 : decode cL_law 497 = .ok (.iadd, 1) := by decide +kernel
theorem dL_law_498 : decode cL_law 498 = .ok (.iaload, 1) := by decide +kernel
theorem dL_law_499 : decode cL_law 499 = .ok (.aload_n 0, 1) := by decide +kernel
theorem dL_law_500 : decode cL_law 500 = .ok (.iload_n 3, 1) := by decide +kernel
theorem dL_law_501 : decode cL_law 501 = .ok (.iconst 2, 1) := by decide +kernel
theorem dL_law_502 : decode cL_law 502 = .ok (.iadd, 1) := by decide +kernel
theorem dL_law_503 : decode cL_law 503 = .ok (.iaload, 1) := by decide +kernel
theorem dL_law_504 : decode cL_law 504 = .ok (.invokevirtual 52, 3) := by decide +kernel
theorem dL_law_507 : decode cL_law 507 = .ok (.if_icmp .eq 239, 3) := by decide +kernel
theorem dL_law_510 : decode cL_law 510 = .ok (.iconst 0, 1) := by decide +kernel
theorem dL_law_511 : decode cL_law 511 = .ok (.ireturn, 1) := by decide +kernel
theorem dL_law_512 : decode cL_law 512 = .ok (.aload_n 1, 1) := by decide +kernel
theorem dL_law_513 : decode cL_law 513 = .ok (.invokevirtual 53, 3) := by decide +kernel
theorem dL_law_516 : decode cL_law 516 = .ok (.aload_n 2, 1) := by decide +kernel
theorem dL_law_517 : decode cL_law 517 = .ok (.invokevirtual 56, 3) := by decide +kernel
theorem dL_law_520 : decode cL_law 520 = .ok (.if_icmp .eq 226, 3) := by decide +kernel
theorem dL_law_523 : decode cL_law 523 = .ok (.iconst 0, 1) := by decide +kernel
theorem dL_law_524 : decode cL_law 524 = .ok (.ireturn, 1) := by decide +kernel
theorem dL_law_525 : decode cL_law 525 = .ok (.aload_n 1, 1) := by decide +kernel
theorem dL_law_526 : decode cL_law 526 = .ok (.aload_n 0, 1) := by decide +kernel
theorem dL_law_527 : decode cL_law 527 = .ok (.iload_n 3, 1) := by decide +kernel
theorem dL_law_528 : decode cL_law 528 = .ok (.iconst 1, 1) := by decide +kernel
theorem dL_law_529 : decode cL_law 529 = .ok (.iadd, 1) := by decide +kernel
theorem dL_law_530 : decode cL_law 530 = .ok (.iaload, 1) := by decide +kernel
theorem dL_law_531 : decode cL_law 531 = .ok (.invokevirtual 57, 3) := by decide +kernel
theorem dL_law_534 : decode cL_law 534 = .ok (.aload_n 2, 1) := by decide +kernel
theorem dL_law_535 : decode cL_law 535 = .ok (.aload_n 0, 1) := by decide +kernel
theorem dL_law_536 : decode cL_law 536 = .ok (.iload_n 3, 1) := by decide +kernel
theorem dL_law_537 : decode cL_law 537 = .ok (.iconst 1, 1) := by decide +kernel
theorem dL_law_538 : decode cL_law 538 = .ok (.iadd, 1) := by decide +kernel
theorem dL_law_539 : decode cL_law 539 = .ok (.iaload, 1) := by decide +kernel
theorem dL_law_540 : decode cL_law 540 = .ok (.invokevirtual 60, 3) := by decide +kernel
theorem dL_law_543 : decode cL_law 543 = .ok (.if_icmp .eq 203, 3) := by decide +kernel
theorem dL_law_546 : decode cL_law 546 = .ok (.iconst 0, 1) := by decide +kernel
theorem dL_law_547 : decode cL_law 547 = .ok (.ireturn, 1) := by decide +kernel
theorem dL_law_548 : decode cL_law 548 = .ok (.aload_n 1, 1) := by decide +kernel
theorem dL_law_549 : decode cL_law 549 = .ok (.aload_n 0, 1) := by decide +kernel
theorem dL_law_550 : decode cL_law 550 = .ok (.iload_n 3, 1) := by decide +kernel
theorem dL_law_551 : decode cL_law 551 = .ok (.iconst 1, 1) := by decide +kernel
theorem dL_law_552 : decode cL_law 552 = .ok (.iadd, 1) := by decide +kernel
theorem dL_law_553 : decode cL_law 553 = .ok (.iaload, 1) := by decide +kernel
theorem dL_law_554 : decode cL_law 554 = .ok (.aload_n 0, 1) := by decide +kernel
theorem dL_law_555 : decode cL_law 555 = .ok (.iload_n 3, 1) := by decide +kernel
theorem dL_law_556 : decode cL_law 556 = .ok (.iconst 2, 1) := by decide +kernel
theorem dL_law_557 : decode cL_law 557 = .ok (.iadd, 1) := by decide +kernel
theorem dL_law_558 : decode cL_law 558 = .ok (.iaload, 1) := by decide +kernel
theorem dL_law_559 : decode cL_law 559 = .ok (.aload_n 0, 1) := by decide +kernel
theorem dL_law_560 : decode cL_law 560 = .ok (.iload_n 3, 1) := by decide +kernel
theorem dL_law_561 : decode cL_law 561 = .ok (.iconst 3, 1) := by decide +kernel
theorem dL_law_562 : decode cL_law 562 = .ok (.iadd, 1) := by decide +kernel
theorem dL_law_563 : decode cL_law 563 = .ok (.iaload, 1) := by decide +kernel
theorem dL_law_564 : decode cL_law 564 = .ok (.invokevirtual 61, 3) := by decide +kernel
theorem dL_law_567 : decode cL_law 567 = .ok (.aload_n 2, 1) := by decide +kernel
theorem dL_law_568 : decode cL_law 568 = .ok (.aload_n 0, 1) := by decide +kernel
theorem dL_law_569 : decode cL_law 569 = .ok (.iload_n 3, 1) := by decide +kernel
theorem dL_law_570 : decode cL_law 570 = .ok (.iconst 1, 1) := by decide +kernel
theorem dL_law_571 : decode cL_law 571 = .ok (.iadd, 1) := by decide +kernel
theorem dL_law_572 : decode cL_law 572 = .ok (.iaload, 1) := by decide +kernel
theorem dL_law_573 : decode cL_law 573 = .ok (.aload_n 0, 1) := by decide +kernel
theorem dL_law_574 : decode cL_law 574 = .ok (.iload_n 3, 1) := by decide +kernel
theorem dL_law_575 : decode cL_law 575 = .ok (.iconst 2, 1) := by decide +kernel
theorem dL_law_576 : decode cL_law 576 = .ok (.iadd, 1) := by decide +kernel
theorem dL_law_577 : decode cL_law 577 = .ok (.iaload, 1) := by decide +kernel
theorem dL_law_578 : decode cL_law 578 = .ok (.aload_n 0, 1) := by decide +kernel
theorem dL_law_579 : decode cL_law 579 = .ok (.iload_n 3, 1) := by decide +kernel
theorem dL_law_580 : decode cL_law 580 = .ok (.iconst 3, 1) := by decide +kernel
theorem dL_law_581 : decode cL_law 581 = .ok (.iadd, 1) := by decide +kernel
theorem dL_law_582 : decode cL_law 582 = .ok (.iaload, 1) := by decide +kernel
theorem dL_law_583 : decode cL_law 583 = .ok (.invokevirtual 65, 3) := by decide +kernel
theorem dL_law_586 : decode cL_law 586 = .ok (.lcmp, 1) := by decide +kernel
theorem dL_law_587 : decode cL_law 587 = .ok (.ifCond .eq 159, 3) := by decide +kernel
theorem dL_law_590 : decode cL_law 590 = .ok (.iconst 0, 1) := by decide +kernel
theorem dL_law_591 : decode cL_law 591 = .ok (.ireturn, 1) := by decide +kernel
theorem dL_law_592 : decode cL_law 592 = .ok (.aload_n 1, 1) := by decide +kernel
theorem dL_law_593 : decode cL_law 593 = .ok (.invokevirtual 66, 3) := by decide +kernel
theorem dL_law_596 : decode cL_law 596 = .ok (.aload_n 2, 1) := by decide +kernel
theorem dL_law_597 : decode cL_law 597 = .ok (.invokevirtual 69, 3) := by decide +kernel
theorem dL_law_600 : decode cL_law 600 = .ok (.if_icmp .eq 146, 3) := by decide +kernel
theorem dL_law_603 : decode cL_law 603 = .ok (.iconst 0, 1) := by decide +kernel
theorem dL_law_604 : decode cL_law 604 = .ok (.ireturn, 1) := by decide +kernel
theorem dL_law_605 : decode cL_law 605 = .ok (.aload_n 1, 1) := by decide +kernel
theorem dL_law_606 : decode cL_law 606 = .ok (.aload_n 0, 1) := by decide +kernel
theorem dL_law_607 : decode cL_law 607 = .ok (.iload_n 3, 1) := by decide +kernel
theorem dL_law_608 : decode cL_law 608 = .ok (.iconst 1, 1) := by decide +kernel
theorem dL_law_609 : decode cL_law 609 = .ok (.iadd, 1) := by decide +kernel
theorem dL_law_610 : decode cL_law 610 = .ok (.iaload, 1) := by decide +kernel
theorem dL_law_611 : decode cL_law 611 = .ok (.aload_n 0, 1) := by decide +kernel
theorem dL_law_612 : decode cL_law 612 = .ok (.iload_n 3, 1) := by decide +kernel
theorem dL_law_613 : decode cL_law 613 = .ok (.iconst 2, 1) := by decide +kernel
theorem dL_law_614 : decode cL_law 614 = .ok (.iadd, 1) := by decide +kernel
theorem dL_law_615 : decode cL_law 615 = .ok (.iaload, 1) := by decide +kernel
theorem dL_law_616 : decode cL_law 616 = .ok (.invokevirtual 70, 3) := by decide +kernel
theorem dL_law_619 : decode cL_law 619 = .ok (.aload_n 2, 1) := by decide +kernel
theorem dL_law_620 : decode cL_law 620 = .ok (.aload_n 0, 1) := by decide +kernel
theorem dL_law_621 : decode cL_law 621 = .ok (.iload_n 3, 1) := by decide +kernel
theorem dL_law_622 : decode cL_law 622 = .ok (.iconst 1, 1) := by decide +kernel
theorem dL_law_623 : decode cL_law 623 = .ok (.iadd, 1) := by decide +kernel
theorem dL_law_624 : decode cL_law 624 = .ok (.iaload, 1) := by decide +kernel
theorem dL_law_625 : decode cL_law 625 = .ok (.aload_n 0, 1) := by decide +kernel
theorem dL_law_626 : decode cL_law 626 = .ok (.iload_n 3, 1) := by decide +kernel
theorem dL_law_627 : decode cL_law 627 = .ok (.iconst 2, 1) := by decide +kernel
theorem dL_law_628 : decode cL_law 628 = .ok (.iadd, 1) := by decide +kernel
theorem dL_law_629 : decode cL_law 629 = .ok (.iaload, 1) := by decide +kernel
theorem dL_law_630 : decode cL_law 630 = .ok (.invokevirtual 74, 3) := by decide +kernel
theorem dL_law_633 : decode cL_law 633 = .ok (.lcmp, 1) := by decide +kernel
theorem dL_law_634 : decode cL_law 634 = .ok (.ifCond .eq 112, 3) := by decide +kernel
theorem dL_law_637 : decode cL_law 637 = .ok (.iconst 0, 1) := by decide +kernel
theorem dL_law_638 : decode cL_law 638 = .ok (.ireturn, 1) := by decide +kernel
theorem dL_law_639 : decode cL_law 639 = .ok (.aload_n 1, 1) := by decide +kernel
theorem dL_law_640 : decode cL_law 640 = .ok (.invokevirtual 75, 3) := by decide +kernel
theorem dL_law_643 : decode cL_law 643 = .ok (.aload_n 2, 1) := by decide +kernel
theorem dL_law_644 : decode cL_law 644 = .ok (.invokevirtual 79, 3) := by decide +kernel
theorem dL_law_647 : decode cL_law 647 = .ok (.lcmp, 1) := by decide +kernel
theorem dL_law_648 : decode cL_law 648 = .ok (.ifCond .eq 98, 3) := by decide +kernel
theorem dL_law_651 : decode cL_law 651 = .ok (.iconst 0, 1) := by decide +kernel
theorem dL_law_652 : decode cL_law 652 = .ok (.ireturn, 1) := by decide +kernel
theorem dL_law_653 : decode cL_law 653 = .ok (.aload_n 1, 1) := by decide +kernel
theorem dL_law_654 : decode cL_law 654 = .ok (.aload_n 0, 1) := by decide +kernel
theorem dL_law_655 : decode cL_law 655 = .ok (.iload_n 3, 1) := by decide +kernel
theorem dL_law_656 : decode cL_law 656 = .ok (.iconst 1, 1) := by decide +kernel
theorem dL_law_657 : decode cL_law 657 = .ok (.iadd, 1) := by decide +kernel
theorem dL_law_658 : decode cL_law 658 = .ok (.iaload, 1) := by decide +kernel
theorem dL_law_659 : decode cL_law 659 = .ok (.invokevirtual 80, 3) := by decide +kernel
theorem dL_law_662 : decode cL_law 662 = .ok (.aload_n 2, 1) := by decide +kernel
theorem dL_law_663 : decode cL_law 663 = .ok (.aload_n 0, 1) := by decide +kernel
theorem dL_law_664 : decode cL_law 664 = .ok (.iload_n 3, 1) := by decide +kernel
theorem dL_law_665 : decode cL_law 665 = .ok (.iconst 1, 1) := by decide +kernel
theorem dL_law_666 : decode cL_law 666 = .ok (.iadd, 1) := by decide +kernel
theorem dL_law_667 : decode cL_law 667 = .ok (.iaload, 1) := by decide +kernel
theorem dL_law_668 : decode cL_law 668 = .ok (.invokevirtual 83, 3) := by decide +kernel
theorem dL_law_671 : decode cL_law 671 = .ok (.if_icmp .eq 75, 3) := by decide +kernel
theorem dL_law_674 : decode cL_law 674 = .ok (.iconst 0, 1) := by decide +kernel
theorem dL_law_675 : decode cL_law 675 = .ok (.ireturn, 1) := by decide +kernel
theorem dL_law_676 : decode cL_law 676 = .ok (.aload_n 1, 1) := by decide +kernel
theorem dL_law_677 : decode cL_law 677 = .ok (.aload_n 0, 1) := by decide +kernel
theorem dL_law_678 : decode cL_law 678 = .ok (.iload_n 3, 1) := by decide +kernel
theorem dL_law_679 : decode cL_law 679 = .ok (.iconst 1, 1) := by decide +kernel
theorem dL_law_680 : decode cL_law 680 = .ok (.iadd, 1) := by decide +kernel
theorem dL_law_681 : decode cL_law 681 = .ok (.iaload, 1) := by decide +kernel
theorem dL_law_682 : decode cL_law 682 = .ok (.invokevirtual 84, 3) := by decide +kernel
theorem dL_law_685 : decode cL_law 685 = .ok (.aload_n 2, 1) := by decide +kernel
theorem dL_law_686 : decode cL_law 686 = .ok (.aload_n 0, 1) := by decide +kernel
theorem dL_law_687 : decode cL_law 687 = .ok (.iload_n 3, 1) := by decide +kernel
theorem dL_law_688 : decode cL_law 688 = .ok (.iconst 1, 1) := by decide +kernel
theorem dL_law_689 : decode cL_law 689 = .ok (.iadd, 1) := by decide +kernel
theorem dL_law_690 : decode cL_law 690 = .ok (.iaload, 1) := by decide +kernel
theorem dL_law_691 : decode cL_law 691 = .ok (.invokevirtual 87, 3) := by decide +kernel
theorem dL_law_694 : decode cL_law 694 = .ok (.if_icmp .eq 52, 3) := by decide +kernel
theorem dL_law_697 : decode cL_law 697 = .ok (.iconst 0, 1) := by decide +kernel
theorem dL_law_698 : decode cL_law 698 = .ok (.ireturn, 1) := by decide +kernel
theorem dL_law_699 : decode cL_law 699 = .ok (.aload_n 1, 1) := by decide +kernel
theorem dL_law_700 : decode cL_law 700 = .ok (.aload_n 0, 1) := by decide +kernel
theorem dL_law_701 : decode cL_law 701 = .ok (.iload_n 3, 1) := by decide +kernel
theorem dL_law_702 : decode cL_law 702 = .ok (.iconst 1, 1) := by decide +kernel
theorem dL_law_703 : decode cL_law 703 = .ok (.iadd, 1) := by decide +kernel
theorem dL_law_704 : decode cL_law 704 = .ok (.iaload, 1) := by decide +kernel
theorem dL_law_705 : decode cL_law 705 = .ok (.invokevirtual 88, 3) := by decide +kernel
theorem dL_law_708 : decode cL_law 708 = .ok (.aload_n 2, 1) := by decide +kernel
theorem dL_law_709 : decode cL_law 709 = .ok (.aload_n 0, 1) := by decide +kernel
theorem dL_law_710 : decode cL_law 710 = .ok (.iload_n 3, 1) := by decide +kernel
theorem dL_law_711 : decode cL_law 711 = .ok (.iconst 1, 1) := by decide +kernel
theorem dL_law_712 : decode cL_law 712 = .ok (.iadd, 1) := by decide +kernel
theorem dL_law_713 : decode cL_law 713 = .ok (.iaload, 1) := by decide +kernel
theorem dL_law_714 : decode cL_law 714 = .ok (.invokevirtual 92, 3) := by decide +kernel
theorem dL_law_717 : decode cL_law 717 = .ok (.lcmp, 1) := by decide +kernel
theorem dL_law_718 : decode cL_law 718 = .ok (.ifCond .eq 28, 3) := by decide +kernel
theorem dL_law_721 : decode cL_law 721 = .ok (.iconst 0, 1) := by decide +kernel
theorem dL_law_722 : decode cL_law 722 = .ok (.ireturn, 1) := by decide +kernel
theorem dL_law_723 : decode cL_law 723 = .ok (.aload_n 1, 1) := by decide +kernel
theorem dL_law_724 : decode cL_law 724 = .ok (.aload_n 0, 1) := by decide +kernel
theorem dL_law_725 : decode cL_law 725 = .ok (.iload_n 3, 1) := by decide +kernel
theorem dL_law_726 : decode cL_law 726 = .ok (.iconst 1, 1) := by decide +kernel
theorem dL_law_727 : decode cL_law 727 = .ok (.iadd, 1) := by decide +kernel
theorem dL_law_728 : decode cL_law 728 = .ok (.iaload, 1) := by decide +kernel
theorem dL_law_729 : decode cL_law 729 = .ok (.invokevirtual 93, 3) := by decide +kernel
theorem dL_law_732 : decode cL_law 732 = .ok (.aload_n 2, 1) := by decide +kernel
theorem dL_law_733 : decode cL_law 733 = .ok (.aload_n 0, 1) := by decide +kernel
theorem dL_law_734 : decode cL_law 734 = .ok (.iload_n 3, 1) := by decide +kernel
theorem dL_law_735 : decode cL_law 735 = .ok (.iconst 1, 1) := by decide +kernel
theorem dL_law_736 : decode cL_law 736 = .ok (.iadd, 1) := by decide +kernel
theorem dL_law_737 : decode cL_law 737 = .ok (.iaload, 1) := by decide +kernel
theorem dL_law_738 : decode cL_law 738 = .ok (.invokevirtual 96, 3) := by decide +kernel
theorem dL_law_741 : decode cL_law 741 = .ok (.if_icmp .eq 5, 3) := by decide +kernel
theorem dL_law_744 : decode cL_law 744 = .ok (.iconst 0, 1) := by decide +kernel
theorem dL_law_745 : decode cL_law 745 = .ok (.ireturn, 1) := by decide +kernel
theorem dL_law_746 : decode cL_law 746 = .ok (.iinc 3 7, 3) := by decide +kernel
theorem dL_law_749 : decode cL_law 749 = .ok (.goto (-731), 3) := by decide +kernel
theorem dL_law_752 : decode cL_law 752 = .ok (.iconst 1, 1) := by decide +kernel
theorem dL_law_753 : decode cL_law 753 = .ok (.ireturn, 1) := by decide +kernel
set_option maxRecDepth 20000 in
theorem kw_67 : Cond.classLink RL 7 RX11 ∈ KW := kw_of (i := 67) (by decide +kernel) rfl
set_option maxRecDepth 20000 in
theorem kw_68 : Cond.instantiable RX11 11 ∈ KW := kw_of (i := 68) (by decide +kernel) rfl
set_option maxRecDepth 20000 in
theorem kw_69 : Cond.methodLink RL 9 yX11_init ∈ KW := kw_of (i := 69) (by decide +kernel) rfl
set_option maxRecDepth 20000 in
theorem kw_70 : Cond.instanceMethod yX11_init ∈ KW := kw_of (i := 70) (by decide +kernel) rfl
set_option maxRecDepth 20000 in
theorem kw_71 : Cond.code yX11_init cX11_init 1 none ∈ KW := kw_of (i := 71) rfl rfl
set_option maxRecDepth 20000 in
theorem kw_443 : Cond.methodLink RL 15 yX11_term ∈ KW := kw_of (i := 443) (by decide +kernel) rfl
set_option maxRecDepth 20000 in
theorem kw_444 : Cond.instanceMethod yX11_term ∈ KW := kw_of (i := 444) (by decide +kernel) rfl
set_option maxRecDepth 20000 in
theorem kw_445 : Cond.selects RX11 yX11_term yX11_term ∈ KW := kw_of (i := 445) (by decide +kernel) rfl
set_option maxRecDepth 20000 in
theorem kw_446 : Cond.code yX11_term cX11_term 7 (some .int) ∈ KW := kw_of (i := 446) rfl rfl
set_option maxRecDepth 20000 in
theorem kw_462 : Cond.methodLink RL 20 yX11_node ∈ KW := kw_of (i := 462) (by decide +kernel) rfl
set_option maxRecDepth 20000 in
theorem kw_463 : Cond.instanceMethod yX11_node ∈ KW := kw_of (i := 463) (by decide +kernel) rfl
set_option maxRecDepth 20000 in
theorem kw_464 : Cond.selects RX11 yX11_node yX11_node ∈ KW := kw_of (i := 464) (by decide +kernel) rfl
set_option maxRecDepth 20000 in
theorem kw_465 : Cond.code yX11_node cX11_node 1 (some .int) ∈ KW := kw_of (i := 465) rfl rfl
set_option maxRecDepth 20000 in
theorem kw_478 : Cond.methodLink RL 25 yX11_arc ∈ KW := kw_of (i := 478) (by decide +kernel) rfl
set_option maxRecDepth 20000 in
theorem kw_479 : Cond.instanceMethod yX11_arc ∈ KW := kw_of (i := 479) (by decide +kernel) rfl
set_option maxRecDepth 20000 in
theorem kw_480 : Cond.selects RX11 yX11_arc yX11_arc ∈ KW := kw_of (i := 480) (by decide +kernel) rfl
set_option maxRecDepth 20000 in
theorem kw_481 : Cond.code yX11_arc cX11_arc 5 (some .int) ∈ KW := kw_of (i := 481) rfl rfl
set_option maxRecDepth 20000 in
theorem kw_490 : Cond.methodLink RL 30 yX11_put ∈ KW := kw_of (i := 490) (by decide +kernel) rfl
set_option maxRecDepth 20000 in
theorem kw_491 : Cond.instanceMethod yX11_put ∈ KW := kw_of (i := 491) (by decide +kernel) rfl
set_option maxRecDepth 20000 in
theorem kw_492 : Cond.selects RX11 yX11_put yX11_put ∈ KW := kw_of (i := 492) (by decide +kernel) rfl
set_option maxRecDepth 20000 in
theorem kw_493 : Cond.code yX11_put cX11_put 5 (some .int) ∈ KW := kw_of (i := 493) rfl rfl
set_option maxRecDepth 20000 in
theorem kw_496 : Cond.methodLink RL 34 yX11_wake ∈ KW := kw_of (i := 496) (by decide +kernel) rfl
set_option maxRecDepth 20000 in
theorem kw_497 : Cond.instanceMethod yX11_wake ∈ KW := kw_of (i := 497) (by decide +kernel) rfl
set_option maxRecDepth 20000 in
theorem kw_498 : Cond.selects RX11 yX11_wake yX11_wake ∈ KW := kw_of (i := 498) (by decide +kernel) rfl
set_option maxRecDepth 20000 in
theorem kw_499 : Cond.code yX11_wake cX11_wake 4 (some .int) ∈ KW := kw_of (i := 499) rfl rfl
set_option maxRecDepth 20000 in
theorem kw_500 : Cond.methodLink RL 39 yX11_act ∈ KW := kw_of (i := 500) (by decide +kernel) rfl
set_option maxRecDepth 20000 in
theorem kw_501 : Cond.instanceMethod yX11_act ∈ KW := kw_of (i := 501) (by decide +kernel) rfl
set_option maxRecDepth 20000 in
theorem kw_502 : Cond.selects RX11 yX11_act yX11_act ∈ KW := kw_of (i := 502) (by decide +kernel) rfl
set_option maxRecDepth 20000 in
theorem kw_503 : Cond.code yX11_act cX11_act 4 (some .int) ∈ KW := kw_of (i := 503) rfl rfl
set_option maxRecDepth 20000 in
theorem kw_505 : Cond.methodLink RL 44 yX11_fold ∈ KW := kw_of (i := 505) (by decide +kernel) rfl
set_option maxRecDepth 20000 in
theorem kw_506 : Cond.instanceMethod yX11_fold ∈ KW := kw_of (i := 506) (by decide +kernel) rfl
set_option maxRecDepth 20000 in
theorem kw_507 : Cond.selects RX11 yX11_fold yX11_fold ∈ KW := kw_of (i := 507) (by decide +kernel) rfl
set_option maxRecDepth 20000 in
theorem kw_508 : Cond.code yX11_fold cX11_fold 3 (some .int) ∈ KW := kw_of (i := 508) rfl rfl
set_option maxRecDepth 20000 in
theorem kw_509 : Cond.methodLink RL 49 yX11_run ∈ KW := kw_of (i := 509) (by decide +kernel) rfl
set_option maxRecDepth 20000 in
theorem kw_510 : Cond.instanceMethod yX11_run ∈ KW := kw_of (i := 510) (by decide +kernel) rfl
set_option maxRecDepth 20000 in
theorem kw_511 : Cond.selects RX11 yX11_run yX11_run ∈ KW := kw_of (i := 511) (by decide +kernel) rfl
set_option maxRecDepth 20000 in
theorem kw_512 : Cond.code yX11_run cX11_run 3 (some .int) ∈ KW := kw_of (i := 512) rfl rfl
set_option maxRecDepth 20000 in
theorem kw_688 : Cond.methodLink RL 53 yX11_undo ∈ KW := kw_of (i := 688) (by decide +kernel) rfl
set_option maxRecDepth 20000 in
theorem kw_689 : Cond.instanceMethod yX11_undo ∈ KW := kw_of (i := 689) (by decide +kernel) rfl
set_option maxRecDepth 20000 in
theorem kw_690 : Cond.selects RX11 yX11_undo yX11_undo ∈ KW := kw_of (i := 690) (by decide +kernel) rfl
set_option maxRecDepth 20000 in
theorem kw_691 : Cond.code yX11_undo cX11_undo 1 (some .int) ∈ KW := kw_of (i := 691) rfl rfl
set_option maxRecDepth 20000 in
theorem kw_696 : Cond.methodLink RL 57 yX11_failed ∈ KW := kw_of (i := 696) (by decide +kernel) rfl
set_option maxRecDepth 20000 in
theorem kw_697 : Cond.instanceMethod yX11_failed ∈ KW := kw_of (i := 697) (by decide +kernel) rfl
set_option maxRecDepth 20000 in
theorem kw_698 : Cond.selects RX11 yX11_failed yX11_failed ∈ KW := kw_of (i := 698) (by decide +kernel) rfl
set_option maxRecDepth 20000 in
theorem kw_699 : Cond.code yX11_failed cX11_failed 2 (some .int) ∈ KW := kw_of (i := 699) rfl rfl
set_option maxRecDepth 20000 in
theorem kw_704 : Cond.methodLink RL 61 yX11_ask ∈ KW := kw_of (i := 704) (by decide +kernel) rfl
set_option maxRecDepth 20000 in
theorem kw_705 : Cond.instanceMethod yX11_ask ∈ KW := kw_of (i := 705) (by decide +kernel) rfl
set_option maxRecDepth 20000 in
theorem kw_706 : Cond.selects RX11 yX11_ask yX11_ask ∈ KW := kw_of (i := 706) (by decide +kernel) rfl
set_option maxRecDepth 20000 in
theorem kw_707 : Cond.code yX11_ask cX11_ask 6 (some .long) ∈ KW := kw_of (i := 707) rfl rfl
set_option maxRecDepth 20000 in
theorem kw_715 : Cond.methodLink RL 66 yX11_why ∈ KW := kw_of (i := 715) (by decide +kernel) rfl
set_option maxRecDepth 20000 in
theorem kw_716 : Cond.instanceMethod yX11_why ∈ KW := kw_of (i := 716) (by decide +kernel) rfl
set_option maxRecDepth 20000 in
theorem kw_717 : Cond.selects RX11 yX11_why yX11_why ∈ KW := kw_of (i := 717) (by decide +kernel) rfl
set_option maxRecDepth 20000 in
theorem kw_718 : Cond.code yX11_why cX11_why 1 (some .int) ∈ KW := kw_of (i := 718) rfl rfl
set_option maxRecDepth 20000 in
theorem kw_719 : Cond.methodLink RL 70 yX11_state ∈ KW := kw_of (i := 719) (by decide +kernel) rfl
set_option maxRecDepth 20000 in
theorem kw_720 : Cond.instanceMethod yX11_state ∈ KW := kw_of (i := 720) (by decide +kernel) rfl
set_option maxRecDepth 20000 in
theorem kw_721 : Cond.selects RX11 yX11_state yX11_state ∈ KW := kw_of (i := 721) (by decide +kernel) rfl
set_option maxRecDepth 20000 in
theorem kw_722 : Cond.code yX11_state cX11_state 3 (some .long) ∈ KW := kw_of (i := 722) rfl rfl
set_option maxRecDepth 20000 in
theorem kw_724 : Cond.methodLink RL 75 yX11_whole ∈ KW := kw_of (i := 724) (by decide +kernel) rfl
set_option maxRecDepth 20000 in
theorem kw_725 : Cond.instanceMethod yX11_whole ∈ KW := kw_of (i := 725) (by decide +kernel) rfl
set_option maxRecDepth 20000 in
theorem kw_726 : Cond.selects RX11 yX11_whole yX11_whole ∈ KW := kw_of (i := 726) (by decide +kernel) rfl
set_option maxRecDepth 20000 in
theorem kw_727 : Cond.code yX11_whole cX11_whole 1 (some .long) ∈ KW := kw_of (i := 727) rfl rfl
set_option maxRecDepth 20000 in
theorem kw_728 : Cond.methodLink RL 80 yX11_awake ∈ KW := kw_of (i := 728) (by decide +kernel) rfl
set_option maxRecDepth 20000 in
theorem kw_729 : Cond.instanceMethod yX11_awake ∈ KW := kw_of (i := 729) (by decide +kernel) rfl
set_option maxRecDepth 20000 in
theorem kw_730 : Cond.selects RX11 yX11_awake yX11_awake ∈ KW := kw_of (i := 730) (by decide +kernel) rfl
set_option maxRecDepth 20000 in
theorem kw_731 : Cond.code yX11_awake cX11_awake 2 (some .int) ∈ KW := kw_of (i := 731) rfl rfl
set_option maxRecDepth 20000 in
theorem kw_732 : Cond.methodLink RL 84 yX11_along ∈ KW := kw_of (i := 732) (by decide +kernel) rfl
set_option maxRecDepth 20000 in
theorem kw_733 : Cond.instanceMethod yX11_along ∈ KW := kw_of (i := 733) (by decide +kernel) rfl
set_option maxRecDepth 20000 in
theorem kw_734 : Cond.selects RX11 yX11_along yX11_along ∈ KW := kw_of (i := 734) (by decide +kernel) rfl
set_option maxRecDepth 20000 in
theorem kw_735 : Cond.code yX11_along cX11_along 2 (some .int) ∈ KW := kw_of (i := 735) rfl rfl
set_option maxRecDepth 20000 in
theorem kw_740 : Cond.methodLink RL 88 yX11_message ∈ KW := kw_of (i := 740) (by decide +kernel) rfl
set_option maxRecDepth 20000 in
theorem kw_741 : Cond.instanceMethod yX11_message ∈ KW := kw_of (i := 741) (by decide +kernel) rfl
set_option maxRecDepth 20000 in
theorem kw_742 : Cond.selects RX11 yX11_message yX11_message ∈ KW := kw_of (i := 742) (by decide +kernel) rfl
set_option maxRecDepth 20000 in
theorem kw_743 : Cond.code yX11_message cX11_message 2 (some .long) ∈ KW := kw_of (i := 743) rfl rfl
set_option maxRecDepth 20000 in
theorem kw_744 : Cond.methodLink RL 93 yX11_count ∈ KW := kw_of (i := 744) (by decide +kernel) rfl
set_option maxRecDepth 20000 in
theorem kw_745 : Cond.instanceMethod yX11_count ∈ KW := kw_of (i := 745) (by decide +kernel) rfl
set_option maxRecDepth 20000 in
theorem kw_746 : Cond.selects RX11 yX11_count yX11_count ∈ KW := kw_of (i := 746) (by decide +kernel) rfl
set_option maxRecDepth 20000 in
theorem kw_747 : Cond.code yX11_count cX11_count 2 (some .int) ∈ KW := kw_of (i := 747) rfl rfl
set_option maxRecDepth 20000 in
theorem kw_749 : Cond.classLink RL 10 RX12 ∈ KW := kw_of (i := 749) (by decide +kernel) rfl
set_option maxRecDepth 20000 in
theorem kw_750 : Cond.instantiable RX12 53 ∈ KW := kw_of (i := 750) (by decide +kernel) rfl
set_option maxRecDepth 20000 in
theorem kw_751 : Cond.methodLink RL 12 yX12_init ∈ KW := kw_of (i := 751) (by decide +kernel) rfl
set_option maxRecDepth 20000 in
theorem kw_752 : Cond.instanceMethod yX12_init ∈ KW := kw_of (i := 752) (by decide +kernel) rfl
set_option maxRecDepth 20000 in
theorem kw_753 : Cond.code yX12_init cX12_init 2 none ∈ KW := kw_of (i := 753) rfl rfl
set_option maxRecDepth 20000 in
theorem kw_919 : Cond.methodLink RL 19 yX12_term ∈ KW := kw_of (i := 919) (by decide +kernel) rfl
set_option maxRecDepth 20000 in
theorem kw_920 : Cond.instanceMethod yX12_term ∈ KW := kw_of (i := 920) (by decide +kernel) rfl
set_option maxRecDepth 20000 in
theorem kw_921 : Cond.selects RX12 yX12_term yX12_term ∈ KW := kw_of (i := 921) (by decide +kernel) rfl
set_option maxRecDepth 20000 in
theorem kw_922 : Cond.code yX12_term cX12_term 7 (some .int) ∈ KW := kw_of (i := 922) rfl rfl
set_option maxRecDepth 20000 in
theorem kw_931 : Cond.methodLink RL 24 yX12_node ∈ KW := kw_of (i := 931) (by decide +kernel) rfl
set_option maxRecDepth 20000 in
theorem kw_932 : Cond.instanceMethod yX12_node ∈ KW := kw_of (i := 932) (by decide +kernel) rfl
set_option maxRecDepth 20000 in
theorem kw_933 : Cond.selects RX12 yX12_node yX12_node ∈ KW := kw_of (i := 933) (by decide +kernel) rfl
set_option maxRecDepth 20000 in
theorem kw_934 : Cond.code yX12_node cX12_node 1 (some .int) ∈ KW := kw_of (i := 934) rfl rfl
set_option maxRecDepth 20000 in
theorem kw_935 : Cond.methodLink RL 29 yX12_arc ∈ KW := kw_of (i := 935) (by decide +kernel) rfl
set_option maxRecDepth 20000 in
theorem kw_936 : Cond.instanceMethod yX12_arc ∈ KW := kw_of (i := 936) (by decide +kernel) rfl
set_option maxRecDepth 20000 in
theorem kw_937 : Cond.selects RX12 yX12_arc yX12_arc ∈ KW := kw_of (i := 937) (by decide +kernel) rfl
set_option maxRecDepth 20000 in
theorem kw_938 : Cond.code yX12_arc cX12_arc 5 (some .int) ∈ KW := kw_of (i := 938) rfl rfl
set_option maxRecDepth 20000 in
theorem kw_943 : Cond.methodLink RL 33 yX12_put ∈ KW := kw_of (i := 943) (by decide +kernel) rfl
set_option maxRecDepth 20000 in
theorem kw_944 : Cond.instanceMethod yX12_put ∈ KW := kw_of (i := 944) (by decide +kernel) rfl
set_option maxRecDepth 20000 in
theorem kw_945 : Cond.selects RX12 yX12_put yX12_put ∈ KW := kw_of (i := 945) (by decide +kernel) rfl
set_option maxRecDepth 20000 in
theorem kw_946 : Cond.code yX12_put cX12_put 5 (some .int) ∈ KW := kw_of (i := 946) rfl rfl
set_option maxRecDepth 20000 in
theorem kw_947 : Cond.methodLink RL 38 yX12_wake ∈ KW := kw_of (i := 947) (by decide +kernel) rfl
set_option maxRecDepth 20000 in
theorem kw_948 : Cond.instanceMethod yX12_wake ∈ KW := kw_of (i := 948) (by decide +kernel) rfl
set_option maxRecDepth 20000 in
theorem kw_949 : Cond.selects RX12 yX12_wake yX12_wake ∈ KW := kw_of (i := 949) (by decide +kernel) rfl
set_option maxRecDepth 20000 in
theorem kw_950 : Cond.code yX12_wake cX12_wake 4 (some .int) ∈ KW := kw_of (i := 950) rfl rfl
set_option maxRecDepth 20000 in
theorem kw_951 : Cond.methodLink RL 43 yX12_act ∈ KW := kw_of (i := 951) (by decide +kernel) rfl
set_option maxRecDepth 20000 in
theorem kw_952 : Cond.instanceMethod yX12_act ∈ KW := kw_of (i := 952) (by decide +kernel) rfl
set_option maxRecDepth 20000 in
theorem kw_953 : Cond.selects RX12 yX12_act yX12_act ∈ KW := kw_of (i := 953) (by decide +kernel) rfl
set_option maxRecDepth 20000 in
theorem kw_954 : Cond.code yX12_act cX12_act 4 (some .int) ∈ KW := kw_of (i := 954) rfl rfl
set_option maxRecDepth 20000 in
theorem kw_955 : Cond.methodLink RL 48 yX12_fold ∈ KW := kw_of (i := 955) (by decide +kernel) rfl
set_option maxRecDepth 20000 in
theorem kw_956 : Cond.instanceMethod yX12_fold ∈ KW := kw_of (i := 956) (by decide +kernel) rfl
set_option maxRecDepth 20000 in
theorem kw_957 : Cond.selects RX12 yX12_fold yX12_fold ∈ KW := kw_of (i := 957) (by decide +kernel) rfl
set_option maxRecDepth 20000 in
theorem kw_958 : Cond.code yX12_fold cX12_fold 3 (some .int) ∈ KW := kw_of (i := 958) rfl rfl
set_option maxRecDepth 20000 in
theorem kw_959 : Cond.methodLink RL 52 yX12_run ∈ KW := kw_of (i := 959) (by decide +kernel) rfl
set_option maxRecDepth 20000 in
theorem kw_960 : Cond.instanceMethod yX12_run ∈ KW := kw_of (i := 960) (by decide +kernel) rfl
set_option maxRecDepth 20000 in
theorem kw_961 : Cond.selects RX12 yX12_run yX12_run ∈ KW := kw_of (i := 961) (by decide +kernel) rfl
set_option maxRecDepth 20000 in
theorem kw_962 : Cond.code yX12_run cX12_run 4 (some .int) ∈ KW := kw_of (i := 962) rfl rfl
set_option maxRecDepth 20000 in
theorem kw_1059 : Cond.methodLink RL 56 yX12_undo ∈ KW := kw_of (i := 1059) (by decide +kernel) rfl
set_option maxRecDepth 20000 in
theorem kw_1060 : Cond.instanceMethod yX12_undo ∈ KW := kw_of (i := 1060) (by decide +kernel) rfl
set_option maxRecDepth 20000 in
theorem kw_1061 : Cond.selects RX12 yX12_undo yX12_undo ∈ KW := kw_of (i := 1061) (by decide +kernel) rfl
set_option maxRecDepth 20000 in
theorem kw_1062 : Cond.code yX12_undo cX12_undo 2 (some .int) ∈ KW := kw_of (i := 1062) rfl rfl
set_option maxRecDepth 20000 in
theorem kw_1063 : Cond.methodLink RL 60 yX12_failed ∈ KW := kw_of (i := 1063) (by decide +kernel) rfl
set_option maxRecDepth 20000 in
theorem kw_1064 : Cond.instanceMethod yX12_failed ∈ KW := kw_of (i := 1064) (by decide +kernel) rfl
set_option maxRecDepth 20000 in
theorem kw_1065 : Cond.selects RX12 yX12_failed yX12_failed ∈ KW := kw_of (i := 1065) (by decide +kernel) rfl
set_option maxRecDepth 20000 in
theorem kw_1066 : Cond.code yX12_failed cX12_failed 2 (some .int) ∈ KW := kw_of (i := 1066) rfl rfl
set_option maxRecDepth 20000 in
theorem kw_1067 : Cond.methodLink RL 65 yX12_ask ∈ KW := kw_of (i := 1067) (by decide +kernel) rfl
set_option maxRecDepth 20000 in
theorem kw_1068 : Cond.instanceMethod yX12_ask ∈ KW := kw_of (i := 1068) (by decide +kernel) rfl
set_option maxRecDepth 20000 in
theorem kw_1069 : Cond.selects RX12 yX12_ask yX12_ask ∈ KW := kw_of (i := 1069) (by decide +kernel) rfl
set_option maxRecDepth 20000 in
theorem kw_1070 : Cond.code yX12_ask cX12_ask 4 (some .long) ∈ KW := kw_of (i := 1070) rfl rfl
set_option maxRecDepth 20000 in
theorem kw_1076 : Cond.methodLink RL 69 yX12_why ∈ KW := kw_of (i := 1076) (by decide +kernel) rfl
set_option maxRecDepth 20000 in
theorem kw_1077 : Cond.instanceMethod yX12_why ∈ KW := kw_of (i := 1077) (by decide +kernel) rfl
set_option maxRecDepth 20000 in
theorem kw_1078 : Cond.selects RX12 yX12_why yX12_why ∈ KW := kw_of (i := 1078) (by decide +kernel) rfl
set_option maxRecDepth 20000 in
theorem kw_1079 : Cond.code yX12_why cX12_why 1 (some .int) ∈ KW := kw_of (i := 1079) rfl rfl
set_option maxRecDepth 20000 in
theorem kw_1080 : Cond.methodLink RL 74 yX12_state ∈ KW := kw_of (i := 1080) (by decide +kernel) rfl
set_option maxRecDepth 20000 in
theorem kw_1081 : Cond.instanceMethod yX12_state ∈ KW := kw_of (i := 1081) (by decide +kernel) rfl
set_option maxRecDepth 20000 in
theorem kw_1082 : Cond.selects RX12 yX12_state yX12_state ∈ KW := kw_of (i := 1082) (by decide +kernel) rfl
set_option maxRecDepth 20000 in
theorem kw_1083 : Cond.code yX12_state cX12_state 3 (some .long) ∈ KW := kw_of (i := 1083) rfl rfl
set_option maxRecDepth 20000 in
theorem kw_1085 : Cond.methodLink RL 79 yX12_whole ∈ KW := kw_of (i := 1085) (by decide +kernel) rfl
set_option maxRecDepth 20000 in
theorem kw_1086 : Cond.instanceMethod yX12_whole ∈ KW := kw_of (i := 1086) (by decide +kernel) rfl
set_option maxRecDepth 20000 in
theorem kw_1087 : Cond.selects RX12 yX12_whole yX12_whole ∈ KW := kw_of (i := 1087) (by decide +kernel) rfl
set_option maxRecDepth 20000 in
theorem kw_1088 : Cond.code yX12_whole cX12_whole 1 (some .long) ∈ KW := kw_of (i := 1088) rfl rfl
set_option maxRecDepth 20000 in
theorem kw_1089 : Cond.methodLink RL 83 yX12_awake ∈ KW := kw_of (i := 1089) (by decide +kernel) rfl
set_option maxRecDepth 20000 in
theorem kw_1090 : Cond.instanceMethod yX12_awake ∈ KW := kw_of (i := 1090) (by decide +kernel) rfl
set_option maxRecDepth 20000 in
theorem kw_1091 : Cond.selects RX12 yX12_awake yX12_awake ∈ KW := kw_of (i := 1091) (by decide +kernel) rfl
set_option maxRecDepth 20000 in
theorem kw_1092 : Cond.code yX12_awake cX12_awake 2 (some .int) ∈ KW := kw_of (i := 1092) rfl rfl
set_option maxRecDepth 20000 in
theorem kw_1093 : Cond.methodLink RL 87 yX12_along ∈ KW := kw_of (i := 1093) (by decide +kernel) rfl
set_option maxRecDepth 20000 in
theorem kw_1094 : Cond.instanceMethod yX12_along ∈ KW := kw_of (i := 1094) (by decide +kernel) rfl
set_option maxRecDepth 20000 in
theorem kw_1095 : Cond.selects RX12 yX12_along yX12_along ∈ KW := kw_of (i := 1095) (by decide +kernel) rfl
set_option maxRecDepth 20000 in
theorem kw_1096 : Cond.code yX12_along cX12_along 2 (some .int) ∈ KW := kw_of (i := 1096) rfl rfl
set_option maxRecDepth 20000 in
theorem kw_1097 : Cond.methodLink RL 92 yX12_message ∈ KW := kw_of (i := 1097) (by decide +kernel) rfl
set_option maxRecDepth 20000 in
theorem kw_1098 : Cond.instanceMethod yX12_message ∈ KW := kw_of (i := 1098) (by decide +kernel) rfl
set_option maxRecDepth 20000 in
theorem kw_1099 : Cond.selects RX12 yX12_message yX12_message ∈ KW := kw_of (i := 1099) (by decide +kernel) rfl
set_option maxRecDepth 20000 in
theorem kw_1100 : Cond.code yX12_message cX12_message 2 (some .long) ∈ KW := kw_of (i := 1100) rfl rfl
set_option maxRecDepth 20000 in
theorem kw_1101 : Cond.methodLink RL 96 yX12_count ∈ KW := kw_of (i := 1101) (by decide +kernel) rfl
set_option maxRecDepth 20000 in
theorem kw_1102 : Cond.instanceMethod yX12_count ∈ KW := kw_of (i := 1102) (by decide +kernel) rfl
set_option maxRecDepth 20000 in
theorem kw_1103 : Cond.selects RX12 yX12_count yX12_count ∈ KW := kw_of (i := 1103) (by decide +kernel) rfl
set_option maxRecDepth 20000 in
theorem kw_1104 : Cond.code yX12_count cX12_count 4 (some .int) ∈ KW := kw_of (i := 1104) rfl rfl
set_option maxRecDepth 20000 in
theorem kw_1105 : Cond.constantLong RL 13 4294967295 ∈ KW := kw_of (i := 1105) (by decide +kernel) rfl
/-! the law: what holds at its loop -/
def lw_C (p : Program) (s : State) (m : MethodId) (meth : Method) (c : Code) (dC : Nat → ClassId) (dI : Nat → Nat → Nat) (kA : Nat → ClassId) (adc adr : Nat → Nat) (b L : Nat) (xs : Nat → Int32) : Prop :=
  p.tables.exec = Jvm.exec ∧ c.code = code ∧ c.maxLocals = 4 ∧ s.vm.findClass RL = some m.cls ∧ (∀ w ∈ KW, w.before #[Value.ref b] s = true) ∧ va_K (dC, dI) vwCl (jtys kA) s ∧ (∀ x ∈ NW, va_Nw x s) ∧ va_X b L xs s s.heap ∧ b < s.heap.size ∧ jw_ap 57 adc ∧ jw_ap 32 adr ∧ (∀ i j, i < 57 → j < 32 → adc i ≠ adr j) ∧ (∀ i, i < 57 → s.heap.size ≤ adc i) ∧ (∀ i, i < 32 → s.heap.size ≤ adr i)
/-- where the loop goes on -/
def lw_N (pc : Nat) (p : Program) (l : Launch) (e : Env) (s : State) (m : MethodId) (below : List Frame) (meth : Method) (c : Code) (b : Nat) (dC : Nat → ClassId) (dI : Nat → Nat → Nat) (kA : Nat → ClassId) (adc adr : Nat → Nat) (i7 B : Nat) : Prop :=
  ∀ (σ τ : RS), RR B σ τ → ∀ (H : Heap) (locs : List Loc) (ls : Array Slot), va_P (dC, dI) vwCl (c_w kA adc σ) H → va_P (dC, dI) vwCl (r_w kA adr τ) H → va_S (fun q : Nat => s.heap.size ≤ q) s.heap H locs → lv_has ls 4 [(3, .int (nI i7)), (2, .ref (adr 0)), (1, .ref (adc 0)), (0, .ref b)] → W p l e room_1 s m #[Value.ref b] below meth c H locs 600000 7302250 (lw_Z below #[Value.ref b] s) (F0 m pc ls [])
theorem jw_mem {N : Nat} {ad : Nat → Nat} {ws : va_W} (hw : ws.map (·.1) = (List.range N).map ad) {k : Nat} {q : Nat × va_E} (h : ws[k]? = some q) : ∃ j, j < N ∧ q.1 = ad j := by
  have h1 : (ws.map (·.1))[k]? = some q.1 := by rw [List.getElem?_map, h]; rfl
  rw [hw, List.getElem?_map] at h1
  cases hk : (List.range N)[k]? with
  | none => rw [hk] at h1; cases h1
  | some j =>
    rw [hk] at h1
    obtain ⟨hl, e⟩ := List.getElem?_eq_some_iff.mp hk
    rw [List.length_range] at hl
    rw [List.getElem_range] at e
    exact ⟨k, hl, by rw [e]; exact (Option.some.inj h1).symm⟩
section LW
variable {p : Program} {l : Launch} {e : Env} {R : Room} {s : State} {m : MethodId} {args : Array Value} {below : List Frame} {meth : Method} {c : Code} {H H0 : Heap} {locs : List Loc} {cells slots pc : Nat} {Q : State → Prop} {ls : Array Slot} {rest st0 : List Value} {D : va_G} {A1 A0 : Nat → Prop} {a0 : Array Value} {w : RS → va_W} {ws2 : va_W} {σ' : RS}
theorem lc_i {v : Int32} (hr : va_Run p l e R s m args below meth c H locs cells slots 0 0 (F0 m pc ls st0) rest (va_Qi (fun r u => (r, u) = (v, σ')) (fun u t => va_P D vwCl (w u) t.heap) A1 a0) A1) (hS : va_S A0 H0 H locs) (hA : ∀ q, A1 q → A0 q) (hP2 : va_P D vwCl ws2 H) (hap : ∀ (k : Nat) (q : Nat × va_E), ws2[k]? = some q → ¬ A1 q.1)
    (kk : ∀ (H1 : Heap) (locs1 : List Loc), va_P D vwCl (w σ') H1 → va_P D vwCl ws2 H1 → va_S A0 H0 H1 locs1 → W p l e R s m args below meth c H1 locs1 cells slots Q (F0 m (pc + 3) ls (.int v :: rest))) : W p l e R s m args below meth c H locs cells slots Q (F0 m pc ls st0) := by
  refine va_calli hr hS (fun q _ h => hA q h) hA (fun r u t H1 locs1 ht _ hw hB _ hk1 hS1 => ?_)
  cases hw
  exact kk H1 locs1 (by rw [← ht]; exact hB) (hP2.kept (fun k q hk => hk1 q.1 ((hP2 k q hk).lt) (hap k q hk))) hS1
theorem lc_l {v : Int64} (hr : va_Run p l e R s m args below meth c H locs cells slots 0 0 (F0 m pc ls st0) rest (va_Ql (fun r u => (r, u) = (v, σ')) (fun u t => va_P D vwCl (w u) t.heap) A1 a0) A1) (hS : va_S A0 H0 H locs) (hA : ∀ q, A1 q → A0 q) (hP2 : va_P D vwCl ws2 H) (hap : ∀ (k : Nat) (q : Nat × va_E), ws2[k]? = some q → ¬ A1 q.1)
    (kk : ∀ (H1 : Heap) (locs1 : List Loc), va_P D vwCl (w σ') H1 → va_P D vwCl ws2 H1 → va_S A0 H0 H1 locs1 → W p l e R s m args below meth c H1 locs1 cells slots Q (F0 m (pc + 3) ls (.long v :: rest))) : W p l e R s m args below meth c H locs cells slots Q (F0 m pc ls st0) := by
  refine va_calll hr hS (fun q _ h => hA q h) hA (fun r u t H1 locs1 ht _ hw hB _ hk1 hS1 => ?_)
  cases hw
  exact kk H1 locs1 (by rw [← ht]; exact hB) (hP2.kept (fun k q hk => hk1 q.1 ((hP2 k q hk).lt) (hap k q hk))) hS1
end LW
theorem lw_ap_r {kA : Nat → ClassId} {adc adr : Nat → Nat} {τ : RS} (hdis : ∀ i j, i < 57 → j < 32 → adc i ≠ adr j) (k : Nat) (q : Nat × va_E) (h : (r_w kA adr τ)[k]? = some q) : ¬ jw_A 57 adc q.1 := by
  obtain ⟨j, hj, ej⟩ := jw_mem (r_fst kA adr τ) h
  rintro ⟨i, hi, ei⟩
  exact hdis i j hi hj (ei.symm.trans ej)
theorem lw_ap_c {kA : Nat → ClassId} {adc adr : Nat → Nat} {σ : RS} (hdis : ∀ i j, i < 57 → j < 32 → adc i ≠ adr j) (k : Nat) (q : Nat × va_E) (h : (c_w kA adc σ)[k]? = some q) : ¬ jw_A 32 adr q.1 := by
  obtain ⟨i, hi, ei⟩ := jw_mem (c_fst kA adc σ) h
  rintro ⟨j, hj, ej⟩
  exact hdis i j hi hj (ei.symm.trans ej)
theorem lw_in {i7 L : Nat} (h7 : i7 + 7 ≤ L) (hL : L ≤ 3584) (k : Nat) (hk : k < 7) : vp_in (nI i7 + nI k) L := by
  rw [nI_add]
  exact vp_in_nI (by omega) (by omega)
