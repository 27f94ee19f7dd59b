set_option maxHeartbeats 4000000 in
set_option maxRecDepth 100000 in
theorem law_0 {p : Program} {l : Launch} {e : Env} {s : State} {m : MethodId} {below : List Frame} {meth : Method} {c : Code} {b L : Nat} {xs : Nat → Int32} {dC : Nat → ClassId} {dI : Nat → Nat → Nat} {kA : Nat → ClassId} {adc adr : Nat → Nat} (C : lw_C p s m meth c dC dI kA adc adr b L xs) {i7 B : Nat} (hB : B < 800000) (h7 : i7 + 7 ≤ L) (hL : L ≤ 3584) (next : lw_N 746 p l e s m below meth c b dC dI kA adc adr i7 (B + 50)) : lw_N 120 p l e s m below meth c b dC dI kA adc adr i7 B := by
  intro σ τ hR H locs ls hPc hPr hS hl
  obtain ⟨hx, hb, hml, hown, hts, hK, hN, hX, hbl, hapc, hapr, hdis, hcA, hrA⟩ := C
  have hbA : ¬ (fun q : Nat => s.heap.size ≤ q) b := Nat.not_le.mpr hbl
  have hcA2 : ∀ q, jw_A 57 adc q → (fun q : Nat => s.heap.size ≤ q) q := fun q h => by obtain ⟨k, hk, rfl⟩ := h; exact hcA k hk
  have hrA2 : ∀ q, jw_A 32 adr q → (fun q : Nat => s.heap.size ≤ q) q := fun q h => by obtain ⟨k, hk, rfl⟩ := h; exact hrA k hk
  refine lv_aload_n hx hb dL_law_120 rfl (lv_at hl 2 rfl) ?_
  refine lv_aload_n hx hb dL_law_121 rfl (lv_at hl 3 rfl) ?_
  refine lv_iload_n hx hb dL_law_122 rfl (lv_at hl 0 rfl) ?_
  refine lv_iconst (v := 1) hx hb dL_law_123 (by decide) ?_
  refine lv_iadd hx hb dL_law_124 ?_
  refine va_sld hx hb hX hbl hbA hS (lw_in h7 hL 1 (by decide)) dL_law_125 ?_
  refine lv_aload_n hx hb dL_law_126 rfl (lv_at hl 3 rfl) ?_
  refine lv_iload_n hx hb dL_law_127 rfl (lv_at hl 0 rfl) ?_
  refine lv_iconst (v := 2) hx hb dL_law_128 (by decide) ?_
  refine lv_iadd hx hb dL_law_129 ?_
  refine va_sld hx hb hX hbl hbA hS (lw_in h7 hL 2 (by decide)) dL_law_130 ?_
  refine lv_aload_n hx hb dL_law_131 rfl (lv_at hl 3 rfl) ?_
  refine lv_iload_n hx hb dL_law_132 rfl (lv_at hl 0 rfl) ?_
  refine lv_iconst (v := 3) hx hb dL_law_133 (by decide) ?_
  refine lv_iadd hx hb dL_law_134 ?_
  refine va_sld hx hb hX hbl hbA hS (lw_in h7 hL 3 (by decide)) dL_law_135 ?_
  refine lv_aload_n hx hb dL_law_136 rfl (lv_at hl 3 rfl) ?_
  refine lv_iload_n hx hb dL_law_137 rfl (lv_at hl 0 rfl) ?_
  refine lv_iconst (v := 4) hx hb dL_law_138 (by decide) ?_
  refine lv_iadd hx hb dL_law_139 ?_
  refine va_sld hx hb hX hbl hbA hS (lw_in h7 hL 4 (by decide)) dL_law_140 ?_
  refine lv_aload_n hx hb dL_law_141 rfl (lv_at hl 3 rfl) ?_
  refine lv_iload_n hx hb dL_law_142 rfl (lv_at hl 0 rfl) ?_
  refine lv_iconst (v := 5) hx hb dL_law_143 (by decide) ?_
  refine lv_iadd hx hb dL_law_144 ?_
  refine va_sld hx hb hX hbl hbA hS (lw_in h7 hL 5 (by decide)) dL_law_145 ?_
  refine lv_i2l hx hb dL_law_146 rfl ?_
  refine lv_bipush (v := 32) hx hb dL_law_147 (by decide) ?_
  refine lv_lshl hx hb dL_law_149 rfl ?_
  refine lv_aload_n hx hb dL_law_150 rfl (lv_at hl 3 rfl) ?_
  refine lv_iload_n hx hb dL_law_151 rfl (lv_at hl 0 rfl) ?_
  refine lv_bipush (v := 6) hx hb dL_law_152 (by decide) ?_
  refine lv_iadd hx hb dL_law_154 ?_
  refine va_sld hx hb hX hbl hbA hS (lw_in h7 hL 6 (by decide)) dL_law_155 ?_
  refine lv_i2l hx hb dL_law_156 rfl ?_
  refine lv_ldc2 (v := 4294967295) hx hb hown (hts _ kw_1105) dL_law_157 ?_
  refine lv_land hx hb dL_law_160 ?_
  refine lv_lor hx hb dL_law_161 ?_
  obtain ⟨v, σ2, τ2, e1, e2, hR2⟩ := q_term hR (xs (nI i7 + 1).toNatClampNeg) (xs (nI i7 + 2).toNatClampNeg) (xs (nI i7 + 3).toNatClampNeg) (xs (nI i7 + 4).toNatClampNeg) (((xs (nI i7 + 5).toNatClampNeg).toInt64 <<< ((32 : Int32).toInt64 &&& 63)) ||| ((xs (nI i7 + 6).toNatClampNeg).toInt64 &&& 4294967295))
  refine lc_i (jv_runG hx hb hml hown hts hK hN hl.1 (n := 5) (As := [.int (xs (nI i7 + 1).toNatClampNeg), .int (xs (nI i7 + 2).toNatClampNeg), .int (xs (nI i7 + 3).toNatClampNeg), .int (xs (nI i7 + 4).toNatClampNeg), .long (((xs (nI i7 + 5).toNatClampNeg).toInt64 <<< ((32 : Int32).toInt64 &&& 63)) ||| ((xs (nI i7 + 6).toNatClampNeg).toInt64 &&& 4294967295))]) (rest := []) (c_cX11_term l hapc σ (xs (nI i7 + 1).toNatClampNeg) (xs (nI i7 + 2).toNatClampNeg) (xs (nI i7 + 3).toNatClampNeg) (xs (nI i7 + 4).toNatClampNeg) (((xs (nI i7 + 5).toNatClampNeg).toInt64 <<< ((32 : Int32).toInt64 &&& 63)) ||| ((xs (nI i7 + 6).toNatClampNeg).toInt64 &&& 4294967295)) (v, σ2) e1) hPc (ci := 11) (q0 := 0) rfl rfl rfl kw_446 kw_443 kw_444 kw_445 kw_52 ⟨rfl, rfl⟩ (by decide +kernel) rfl ⟨(Nat.le_of_ble_eq_true rfl), (Nat.le_of_ble_eq_true rfl)⟩ rfl (Nat.le_of_ble_eq_true rfl) dL_law_162 ⟨(Nat.le_of_ble_eq_true rfl), (Nat.le_of_ble_eq_true rfl)⟩) hS hcA2 hPr (lw_ap_r hdis) (fun H locs hPc hPr hS => ?_)
  refine lv_aload_n hx hb dL_law_165 rfl (lv_at hl 1 rfl) ?_
  refine lv_aload_n hx hb dL_law_166 rfl (lv_at hl 3 rfl) ?_
  refine lv_iload_n hx hb dL_law_167 rfl (lv_at hl 0 rfl) ?_
  refine lv_iconst (v := 1) hx hb dL_law_168 (by decide) ?_
  refine lv_iadd hx hb dL_law_169 ?_
  refine va_sld hx hb hX hbl hbA hS (lw_in h7 hL 1 (by decide)) dL_law_170 ?_
  refine lv_aload_n hx hb dL_law_171 rfl (lv_at hl 3 rfl) ?_
  refine lv_iload_n hx hb dL_law_172 rfl (lv_at hl 0 rfl) ?_
  refine lv_iconst (v := 2) hx hb dL_law_173 (by decide) ?_
  refine lv_iadd hx hb dL_law_174 ?_
  refine va_sld hx hb hX hbl hbA hS (lw_in h7 hL 2 (by decide)) dL_law_175 ?_
  refine lv_aload_n hx hb dL_law_176 rfl (lv_at hl 3 rfl) ?_
  refine lv_iload_n hx hb dL_law_177 rfl (lv_at hl 0 rfl) ?_
  refine lv_iconst (v := 3) hx hb dL_law_178 (by decide) ?_
  refine lv_iadd hx hb dL_law_179 ?_
  refine va_sld hx hb hX hbl hbA hS (lw_in h7 hL 3 (by decide)) dL_law_180 ?_
  refine lv_aload_n hx hb dL_law_181 rfl (lv_at hl 3 rfl) ?_
  refine lv_iload_n hx hb dL_law_182 rfl (lv_at hl 0 rfl) ?_
  refine lv_iconst (v := 4) hx hb dL_law_183 (by decide) ?_
  refine lv_iadd hx hb dL_law_184 ?_
  refine va_sld hx hb hX hbl hbA hS (lw_in h7 hL 4 (by decide)) dL_law_185 ?_
  refine lv_aload_n hx hb dL_law_186 rfl (lv_at hl 3 rfl) ?_
  refine lv_iload_n hx hb dL_law_187 rfl (lv_at hl 0 rfl) ?_
  refine lv_iconst (v := 5) hx hb dL_law_188 (by decide) ?_
  refine lv_iadd hx hb dL_law_189 ?_
  refine va_sld hx hb hX hbl hbA hS (lw_in h7 hL 5 (by decide)) dL_law_190 ?_
  refine lv_i2l hx hb dL_law_191 rfl ?_
  refine lv_bipush (v := 32) hx hb dL_law_192 (by decide) ?_
  refine lv_lshl hx hb dL_law_194 rfl ?_
  refine lv_aload_n hx hb dL_law_195 rfl (lv_at hl 3 rfl) ?_
  refine lv_iload_n hx hb dL_law_196 rfl (lv_at hl 0 rfl) ?_
  refine lv_bipush (v := 6) hx hb dL_law_197 (by decide) ?_
  refine lv_iadd hx hb dL_law_199 ?_
  refine va_sld hx hb hX hbl hbA hS (lw_in h7 hL 6 (by decide)) dL_law_200 ?_
  refine lv_i2l hx hb dL_law_201 rfl ?_
  refine lv_ldc2 (v := 4294967295) hx hb hown (hts _ kw_1105) dL_law_202 ?_
  refine lv_land hx hb dL_law_205 ?_
  refine lv_lor hx hb dL_law_206 ?_
  refine lc_i (jv_runG hx hb hml hown hts hK hN hl.1 (n := 5) (As := [.int (xs (nI i7 + 1).toNatClampNeg), .int (xs (nI i7 + 2).toNatClampNeg), .int (xs (nI i7 + 3).toNatClampNeg), .int (xs (nI i7 + 4).toNatClampNeg), .long (((xs (nI i7 + 5).toNatClampNeg).toInt64 <<< ((32 : Int32).toInt64 &&& 63)) ||| ((xs (nI i7 + 6).toNatClampNeg).toInt64 &&& 4294967295))]) (rest := [.int (v)]) (c_rX12_term l hapr τ (xs (nI i7 + 1).toNatClampNeg) (xs (nI i7 + 2).toNatClampNeg) (xs (nI i7 + 3).toNatClampNeg) (xs (nI i7 + 4).toNatClampNeg) (((xs (nI i7 + 5).toNatClampNeg).toInt64 <<< ((32 : Int32).toInt64 &&& 63)) ||| ((xs (nI i7 + 6).toNatClampNeg).toInt64 &&& 4294967295)) (v, τ2) e2) hPr (ci := 12) (q0 := 0) rfl rfl rfl kw_922 kw_919 kw_920 kw_921 kw_64 ⟨rfl, rfl⟩ (by decide +kernel) rfl ⟨(Nat.le_of_ble_eq_true rfl), (Nat.le_of_ble_eq_true rfl)⟩ rfl (Nat.le_of_ble_eq_true rfl) dL_law_207 ⟨(Nat.le_of_ble_eq_true rfl), (Nat.le_of_ble_eq_true rfl)⟩) hS hrA2 hPc (lw_ap_c hdis) (fun H locs hPr hPc hS => ?_)
  exact lv_icmp_eq (tgt := 746) hx hb dL_law_210 (by decide) (fun _ => next σ2 τ2 (RR_B hR2 (by omega)) _ _ _ hPc hPr hS hl) (fun c9 => absurd rfl c9)

set_option maxHeartbeats 4000000 in
set_option maxRecDepth 100000 in
theorem law_1 {p : Program} {l : Launch} {e : Env} {s : State} {m : MethodId} {below : List Frame} {meth : Method} {c : Code} {b L : Nat} {xs : Nat → Int32} {dC : Nat → ClassId} {dI : Nat → Nat → Nat} {kA : Nat → ClassId} {adc adr : Nat → Nat} (C : lw_C p s m meth c dC dI kA adc adr b L xs) {i7 B : Nat} (hB : B < 800000) (h7 : i7 + 7 ≤ L) (hL : L ≤ 3584) (next : lw_N 746 p l e s m below meth c b dC dI kA adc adr i7 (B + 50)) : lw_N 215 p l e s m below meth c b dC dI kA adc adr i7 B := by
  intro σ τ hR H locs ls hPc hPr hS hl
  obtain ⟨hx, hb, hml, hown, hts, hK, hN, hX, hbl, hapc, hapr, hdis, hcA, hrA⟩ := C
  have hbA : ¬ (fun q : Nat => s.heap.size ≤ q) b := Nat.not_le.mpr hbl
  have hcA2 : ∀ q, jw_A 57 adc q → (fun q : Nat => s.heap.size ≤ q) q := fun q h => by obtain ⟨k, hk, rfl⟩ := h; exact hcA k hk
  have hrA2 : ∀ q, jw_A 32 adr q → (fun q : Nat => s.heap.size ≤ q) q := fun q h => by obtain ⟨k, hk, rfl⟩ := h; exact hrA k hk
  refine lv_aload_n hx hb dL_law_215 rfl (lv_at hl 2 rfl) ?_
  obtain ⟨v, σ2, τ2, e1, e2, hR2⟩ := q_node hR
  refine lc_i (jv_runG hx hb hml hown hts hK hN hl.1 (n := 0) (As := []) (rest := []) (c_cX11_node l hapc σ (v, σ2) e1) hPc (ci := 11) (q0 := 0) rfl rfl rfl kw_465 kw_462 kw_463 kw_464 kw_52 ⟨rfl, rfl⟩ (by decide +kernel) rfl ⟨(Nat.le_of_ble_eq_true rfl), (Nat.le_of_ble_eq_true rfl)⟩ rfl (Nat.le_of_ble_eq_true rfl) dL_law_216 ⟨(Nat.le_of_ble_eq_true rfl), (Nat.le_of_ble_eq_true rfl)⟩) hS hcA2 hPr (lw_ap_r hdis) (fun H locs hPc hPr hS => ?_)
  refine lv_aload_n hx hb dL_law_219 rfl (lv_at hl 1 rfl) ?_
  refine lc_i (jv_runG hx hb hml hown hts hK hN hl.1 (n := 0) (As := []) (rest := [.int (v)]) (c_rX12_node l hapr τ (v, τ2) e2) hPr (ci := 12) (q0 := 0) rfl rfl rfl kw_934 kw_931 kw_932 kw_933 kw_64 ⟨rfl, rfl⟩ (by decide +kernel) rfl ⟨(Nat.le_of_ble_eq_true rfl), (Nat.le_of_ble_eq_true rfl)⟩ rfl (Nat.le_of_ble_eq_true rfl) dL_law_220 ⟨(Nat.le_of_ble_eq_true rfl), (Nat.le_of_ble_eq_true rfl)⟩) hS hrA2 hPc (lw_ap_c hdis) (fun H locs hPr hPc hS => ?_)
  exact lv_icmp_eq (tgt := 746) hx hb dL_law_223 (by decide) (fun _ => next σ2 τ2 (RR_B hR2 (by omega)) _ _ _ hPc hPr hS hl) (fun c9 => absurd rfl c9)

set_option maxHeartbeats 4000000 in
set_option maxRecDepth 100000 in
theorem law_2 {p : Program} {l : Launch} {e : Env} {s : State} {m : MethodId} {below : List Frame} {meth : Method} {c : Code} {b L : Nat} {xs : Nat → Int32} {dC : Nat → ClassId} {dI : Nat → Nat → Nat} {kA : Nat → ClassId} {adc adr : Nat → Nat} (C : lw_C p s m meth c dC dI kA adc adr b L xs) {i7 B : Nat} (hB : B < 800000) (h7 : i7 + 7 ≤ L) (hL : L ≤ 3584) (next : lw_N 746 p l e s m below meth c b dC dI kA adc adr i7 (B + 50)) : lw_N 228 p l e s m below meth c b dC dI kA adc adr i7 B := by
  intro σ τ hR H locs ls hPc hPr hS hl
  obtain ⟨hx, hb, hml, hown, hts, hK, hN, hX, hbl, hapc, hapr, hdis, hcA, hrA⟩ := C
  have hbA : ¬ (fun q : Nat => s.heap.size ≤ q) b := Nat.not_le.mpr hbl
  have hcA2 : ∀ q, jw_A 57 adc q → (fun q : Nat => s.heap.size ≤ q) q := fun q h => by obtain ⟨k, hk, rfl⟩ := h; exact hcA k hk
  have hrA2 : ∀ q, jw_A 32 adr q → (fun q : Nat => s.heap.size ≤ q) q := fun q h => by obtain ⟨k, hk, rfl⟩ := h; exact hrA k hk
  refine lv_aload_n hx hb dL_law_228 rfl (lv_at hl 2 rfl) ?_
  refine lv_aload_n hx hb dL_law_229 rfl (lv_at hl 3 rfl) ?_
  refine lv_iload_n hx hb dL_law_230 rfl (lv_at hl 0 rfl) ?_
  refine lv_iconst (v := 1) hx hb dL_law_231 (by decide) ?_
  refine lv_iadd hx hb dL_law_232 ?_
  refine va_sld hx hb hX hbl hbA hS (lw_in h7 hL 1 (by decide)) dL_law_233 ?_
  refine lv_aload_n hx hb dL_law_234 rfl (lv_at hl 3 rfl) ?_
  refine lv_iload_n hx hb dL_law_235 rfl (lv_at hl 0 rfl) ?_
  refine lv_iconst (v := 2) hx hb dL_law_236 (by decide) ?_
  refine lv_iadd hx hb dL_law_237 ?_
  refine va_sld hx hb hX hbl hbA hS (lw_in h7 hL 2 (by decide)) dL_law_238 ?_
  refine lv_aload_n hx hb dL_law_239 rfl (lv_at hl 3 rfl) ?_
  refine lv_iload_n hx hb dL_law_240 rfl (lv_at hl 0 rfl) ?_
  refine lv_iconst (v := 3) hx hb dL_law_241 (by decide) ?_
  refine lv_iadd hx hb dL_law_242 ?_
  refine va_sld hx hb hX hbl hbA hS (lw_in h7 hL 3 (by decide)) dL_law_243 ?_
  refine lv_i2l hx hb dL_law_244 rfl ?_
  refine lv_bipush (v := 32) hx hb dL_law_245 (by decide) ?_
  refine lv_lshl hx hb dL_law_247 rfl ?_
  refine lv_aload_n hx hb dL_law_248 rfl (lv_at hl 3 rfl) ?_
  refine lv_iload_n hx hb dL_law_249 rfl (lv_at hl 0 rfl) ?_
  refine lv_iconst (v := 4) hx hb dL_law_250 (by decide) ?_
  refine lv_iadd hx hb dL_law_251 ?_
  refine va_sld hx hb hX hbl hbA hS (lw_in h7 hL 4 (by decide)) dL_law_252 ?_
  refine lv_i2l hx hb dL_law_253 rfl ?_
  refine lv_ldc2 (v := 4294967295) hx hb hown (hts _ kw_1105) dL_law_254 ?_
  refine lv_land hx hb dL_law_257 ?_
  refine lv_lor hx hb dL_law_258 ?_
  obtain ⟨v, σ2, τ2, e1, e2, hR2⟩ := q_arc hR (xs (nI i7 + 1).toNatClampNeg) (xs (nI i7 + 2).toNatClampNeg) (((xs (nI i7 + 3).toNatClampNeg).toInt64 <<< ((32 : Int32).toInt64 &&& 63)) ||| ((xs (nI i7 + 4).toNatClampNeg).toInt64 &&& 4294967295))
  refine lc_i (jv_runG hx hb hml hown hts hK hN hl.1 (n := 3) (As := [.int (xs (nI i7 + 1).toNatClampNeg), .int (xs (nI i7 + 2).toNatClampNeg), .long (((xs (nI i7 + 3).toNatClampNeg).toInt64 <<< ((32 : Int32).toInt64 &&& 63)) ||| ((xs (nI i7 + 4).toNatClampNeg).toInt64 &&& 4294967295))]) (rest := []) (c_cX11_arc l hapc σ (xs (nI i7 + 1).toNatClampNeg) (xs (nI i7 + 2).toNatClampNeg) (((xs (nI i7 + 3).toNatClampNeg).toInt64 <<< ((32 : Int32).toInt64 &&& 63)) ||| ((xs (nI i7 + 4).toNatClampNeg).toInt64 &&& 4294967295)) (v, σ2) e1) hPc (ci := 11) (q0 := 0) rfl rfl rfl kw_481 kw_478 kw_479 kw_480 kw_52 ⟨rfl, rfl⟩ (by decide +kernel) rfl ⟨(Nat.le_of_ble_eq_true rfl), (Nat.le_of_ble_eq_true rfl)⟩ rfl (Nat.le_of_ble_eq_true rfl) dL_law_259 ⟨(Nat.le_of_ble_eq_true rfl), (Nat.le_of_ble_eq_true rfl)⟩) hS hcA2 hPr (lw_ap_r hdis) (fun H locs hPc hPr hS => ?_)
  refine lv_aload_n hx hb dL_law_262 rfl (lv_at hl 1 rfl) ?_
  refine lv_aload_n hx hb dL_law_263 rfl (lv_at hl 3 rfl) ?_
  refine lv_iload_n hx hb dL_law_264 rfl (lv_at hl 0 rfl) ?_
  refine lv_iconst (v := 1) hx hb dL_law_265 (by decide) ?_
  refine lv_iadd hx hb dL_law_266 ?_
  refine va_sld hx hb hX hbl hbA hS (lw_in h7 hL 1 (by decide)) dL_law_267 ?_
  refine lv_aload_n hx hb dL_law_268 rfl (lv_at hl 3 rfl) ?_
  refine lv_iload_n hx hb dL_law_269 rfl (lv_at hl 0 rfl) ?_
  refine lv_iconst (v := 2) hx hb dL_law_270 (by decide) ?_
  refine lv_iadd hx hb dL_law_271 ?_
  refine va_sld hx hb hX hbl hbA hS (lw_in h7 hL 2 (by decide)) dL_law_272 ?_
  refine lv_aload_n hx hb dL_law_273 rfl (lv_at hl 3 rfl) ?_
  refine lv_iload_n hx hb dL_law_274 rfl (lv_at hl 0 rfl) ?_
  refine lv_iconst (v := 3) hx hb dL_law_275 (by decide) ?_
  refine lv_iadd hx hb dL_law_276 ?_
  refine va_sld hx hb hX hbl hbA hS (lw_in h7 hL 3 (by decide)) dL_law_277 ?_
  refine lv_i2l hx hb dL_law_278 rfl ?_
  refine lv_bipush (v := 32) hx hb dL_law_279 (by decide) ?_
  refine lv_lshl hx hb dL_law_281 rfl ?_
  refine lv_aload_n hx hb dL_law_282 rfl (lv_at hl 3 rfl) ?_
  refine lv_iload_n hx hb dL_law_283 rfl (lv_at hl 0 rfl) ?_
  refine lv_iconst (v := 4) hx hb dL_law_284 (by decide) ?_
  refine lv_iadd hx hb dL_law_285 ?_
  refine va_sld hx hb hX hbl hbA hS (lw_in h7 hL 4 (by decide)) dL_law_286 ?_
  refine lv_i2l hx hb dL_law_287 rfl ?_
  refine lv_ldc2 (v := 4294967295) hx hb hown (hts _ kw_1105) dL_law_288 ?_
  refine lv_land hx hb dL_law_291 ?_
  refine lv_lor hx hb dL_law_292 ?_
  refine lc_i (jv_runG hx hb hml hown hts hK hN hl.1 (n := 3) (As := [.int (xs (nI i7 + 1).toNatClampNeg), .int (xs (nI i7 + 2).toNatClampNeg), .long (((xs (nI i7 + 3).toNatClampNeg).toInt64 <<< ((32 : Int32).toInt64 &&& 63)) ||| ((xs (nI i7 + 4).toNatClampNeg).toInt64 &&& 4294967295))]) (rest := [.int (v)]) (c_rX12_arc l hapr τ (xs (nI i7 + 1).toNatClampNeg) (xs (nI i7 + 2).toNatClampNeg) (((xs (nI i7 + 3).toNatClampNeg).toInt64 <<< ((32 : Int32).toInt64 &&& 63)) ||| ((xs (nI i7 + 4).toNatClampNeg).toInt64 &&& 4294967295)) (v, τ2) e2) hPr (ci := 12) (q0 := 0) rfl rfl rfl kw_938 kw_935 kw_936 kw_937 kw_64 ⟨rfl, rfl⟩ (by decide +kernel) rfl ⟨(Nat.le_of_ble_eq_true rfl), (Nat.le_of_ble_eq_true rfl)⟩ rfl (Nat.le_of_ble_eq_true rfl) dL_law_293 ⟨(Nat.le_of_ble_eq_true rfl), (Nat.le_of_ble_eq_true rfl)⟩) hS hrA2 hPc (lw_ap_c hdis) (fun H locs hPr hPc hS => ?_)
  exact lv_icmp_eq (tgt := 746) hx hb dL_law_296 (by decide) (fun _ => next σ2 τ2 (RR_B hR2 (by omega)) _ _ _ hPc hPr hS hl) (fun c9 => absurd rfl c9)

set_option maxHeartbeats 4000000 in
set_option maxRecDepth 100000 in
theorem law_3 {p : Program} {l : Launch} {e : Env} {s : State} {m : MethodId} {below : List Frame} {meth : Method} {c : Code} {b L : Nat} {xs : Nat → Int32} {dC : Nat → ClassId} {dI : Nat → Nat → Nat} {kA : Nat → ClassId} {adc adr : Nat → Nat} (C : lw_C p s m meth c dC dI kA adc adr b L xs) {i7 B : Nat} (hB : B < 800000) (h7 : i7 + 7 ≤ L) (hL : L ≤ 3584) (next : lw_N 746 p l e s m below meth c b dC dI kA adc adr i7 (B + 50)) : lw_N 301 p l e s m below meth c b dC dI kA adc adr i7 B := by
  intro σ τ hR H locs ls hPc hPr hS hl
  obtain ⟨hx, hb, hml, hown, hts, hK, hN, hX, hbl, hapc, hapr, hdis, hcA, hrA⟩ := C
  have hbA : ¬ (fun q : Nat => s.heap.size ≤ q) b := Nat.not_le.mpr hbl
  have hcA2 : ∀ q, jw_A 57 adc q → (fun q : Nat => s.heap.size ≤ q) q := fun q h => by obtain ⟨k, hk, rfl⟩ := h; exact hcA k hk
  have hrA2 : ∀ q, jw_A 32 adr q → (fun q : Nat => s.heap.size ≤ q) q := fun q h => by obtain ⟨k, hk, rfl⟩ := h; exact hrA k hk
  refine lv_aload_n hx hb dL_law_301 rfl (lv_at hl 2 rfl) ?_
  refine lv_aload_n hx hb dL_law_302 rfl (lv_at hl 3 rfl) ?_
  refine lv_iload_n hx hb dL_law_303 rfl (lv_at hl 0 rfl) ?_
  refine lv_iconst (v := 1) hx hb dL_law_304 (by decide) ?_
  refine lv_iadd hx hb dL_law_305 ?_
  refine va_sld hx hb hX hbl hbA hS (lw_in h7 hL 1 (by decide)) dL_law_306 ?_
  refine lv_aload_n hx hb dL_law_307 rfl (lv_at hl 3 rfl) ?_
  refine lv_iload_n hx hb dL_law_308 rfl (lv_at hl 0 rfl) ?_
  refine lv_iconst (v := 2) hx hb dL_law_309 (by decide) ?_
  refine lv_iadd hx hb dL_law_310 ?_
  refine va_sld hx hb hX hbl hbA hS (lw_in h7 hL 2 (by decide)) dL_law_311 ?_
  refine lv_aload_n hx hb dL_law_312 rfl (lv_at hl 3 rfl) ?_
  refine lv_iload_n hx hb dL_law_313 rfl (lv_at hl 0 rfl) ?_
  refine lv_iconst (v := 3) hx hb dL_law_314 (by decide) ?_
  refine lv_iadd hx hb dL_law_315 ?_
  refine va_sld hx hb hX hbl hbA hS (lw_in h7 hL 3 (by decide)) dL_law_316 ?_
  refine lv_i2l hx hb dL_law_317 rfl ?_
  refine lv_bipush (v := 32) hx hb dL_law_318 (by decide) ?_
  refine lv_lshl hx hb dL_law_320 rfl ?_
  refine lv_aload_n hx hb dL_law_321 rfl (lv_at hl 3 rfl) ?_
  refine lv_iload_n hx hb dL_law_322 rfl (lv_at hl 0 rfl) ?_
  refine lv_iconst (v := 4) hx hb dL_law_323 (by decide) ?_
  refine lv_iadd hx hb dL_law_324 ?_
  refine va_sld hx hb hX hbl hbA hS (lw_in h7 hL 4 (by decide)) dL_law_325 ?_
  refine lv_i2l hx hb dL_law_326 rfl ?_
  refine lv_ldc2 (v := 4294967295) hx hb hown (hts _ kw_1105) dL_law_327 ?_
  refine lv_land hx hb dL_law_330 ?_
  refine lv_lor hx hb dL_law_331 ?_
  obtain ⟨v, σ2, τ2, e1, e2, hR2⟩ := q_put hR (xs (nI i7 + 1).toNatClampNeg) (xs (nI i7 + 2).toNatClampNeg) (((xs (nI i7 + 3).toNatClampNeg).toInt64 <<< ((32 : Int32).toInt64 &&& 63)) ||| ((xs (nI i7 + 4).toNatClampNeg).toInt64 &&& 4294967295))
  refine lc_i (jv_runG hx hb hml hown hts hK hN hl.1 (n := 3) (As := [.int (xs (nI i7 + 1).toNatClampNeg), .int (xs (nI i7 + 2).toNatClampNeg), .long (((xs (nI i7 + 3).toNatClampNeg).toInt64 <<< ((32 : Int32).toInt64 &&& 63)) ||| ((xs (nI i7 + 4).toNatClampNeg).toInt64 &&& 4294967295))]) (rest := []) (c_cX11_put l hapc σ (xs (nI i7 + 1).toNatClampNeg) (xs (nI i7 + 2).toNatClampNeg) (((xs (nI i7 + 3).toNatClampNeg).toInt64 <<< ((32 : Int32).toInt64 &&& 63)) ||| ((xs (nI i7 + 4).toNatClampNeg).toInt64 &&& 4294967295)) (v, σ2) e1) hPc (ci := 11) (q0 := 0) rfl rfl rfl kw_493 kw_490 kw_491 kw_492 kw_52 ⟨rfl, rfl⟩ (by decide +kernel) rfl ⟨(Nat.le_of_ble_eq_true rfl), (Nat.le_of_ble_eq_true rfl)⟩ rfl (Nat.le_of_ble_eq_true rfl) dL_law_332 ⟨(Nat.le_of_ble_eq_true rfl), (Nat.le_of_ble_eq_true rfl)⟩) hS hcA2 hPr (lw_ap_r hdis) (fun H locs hPc hPr hS => ?_)
  refine lv_aload_n hx hb dL_law_335 rfl (lv_at hl 1 rfl) ?_
  refine lv_aload_n hx hb dL_law_336 rfl (lv_at hl 3 rfl) ?_
  refine lv_iload_n hx hb dL_law_337 rfl (lv_at hl 0 rfl) ?_
  refine lv_iconst (v := 1) hx hb dL_law_338 (by decide) ?_
  refine lv_iadd hx hb dL_law_339 ?_
  refine va_sld hx hb hX hbl hbA hS (lw_in h7 hL 1 (by decide)) dL_law_340 ?_
  refine lv_aload_n hx hb dL_law_341 rfl (lv_at hl 3 rfl) ?_
  refine lv_iload_n hx hb dL_law_342 rfl (lv_at hl 0 rfl) ?_
  refine lv_iconst (v := 2) hx hb dL_law_343 (by decide) ?_
  refine lv_iadd hx hb dL_law_344 ?_
  refine va_sld hx hb hX hbl hbA hS (lw_in h7 hL 2 (by decide)) dL_law_345 ?_
  refine lv_aload_n hx hb dL_law_346 rfl (lv_at hl 3 rfl) ?_
  refine lv_iload_n hx hb dL_law_347 rfl (lv_at hl 0 rfl) ?_
  refine lv_iconst (v := 3) hx hb dL_law_348 (by decide) ?_
  refine lv_iadd hx hb dL_law_349 ?_
  refine va_sld hx hb hX hbl hbA hS (lw_in h7 hL 3 (by decide)) dL_law_350 ?_
  refine lv_i2l hx hb dL_law_351 rfl ?_
  refine lv_bipush (v := 32) hx hb dL_law_352 (by decide) ?_
  refine lv_lshl hx hb dL_law_354 rfl ?_
  refine lv_aload_n hx hb dL_law_355 rfl (lv_at hl 3 rfl) ?_
  refine lv_iload_n hx hb dL_law_356 rfl (lv_at hl 0 rfl) ?_
  refine lv_iconst (v := 4) hx hb dL_law_357 (by decide) ?_
  refine lv_iadd hx hb dL_law_358 ?_
  refine va_sld hx hb hX hbl hbA hS (lw_in h7 hL 4 (by decide)) dL_law_359 ?_
  refine lv_i2l hx hb dL_law_360 rfl ?_
  refine lv_ldc2 (v := 4294967295) hx hb hown (hts _ kw_1105) dL_law_361 ?_
  refine lv_land hx hb dL_law_364 ?_
  refine lv_lor hx hb dL_law_365 ?_
  refine lc_i (jv_runG hx hb hml hown hts hK hN hl.1 (n := 3) (As := [.int (xs (nI i7 + 1).toNatClampNeg), .int (xs (nI i7 + 2).toNatClampNeg), .long (((xs (nI i7 + 3).toNatClampNeg).toInt64 <<< ((32 : Int32).toInt64 &&& 63)) ||| ((xs (nI i7 + 4).toNatClampNeg).toInt64 &&& 4294967295))]) (rest := [.int (v)]) (c_rX12_put l hapr τ (xs (nI i7 + 1).toNatClampNeg) (xs (nI i7 + 2).toNatClampNeg) (((xs (nI i7 + 3).toNatClampNeg).toInt64 <<< ((32 : Int32).toInt64 &&& 63)) ||| ((xs (nI i7 + 4).toNatClampNeg).toInt64 &&& 4294967295)) (v, τ2) e2) hPr (ci := 12) (q0 := 0) rfl rfl rfl kw_946 kw_943 kw_944 kw_945 kw_64 ⟨rfl, rfl⟩ (by decide +kernel) rfl ⟨(Nat.le_of_ble_eq_true rfl), (Nat.le_of_ble_eq_true rfl)⟩ rfl (Nat.le_of_ble_eq_true rfl) dL_law_366 ⟨(Nat.le_of_ble_eq_true rfl), (Nat.le_of_ble_eq_true rfl)⟩) hS hrA2 hPc (lw_ap_c hdis) (fun H locs hPr hPc hS => ?_)
  exact lv_icmp_eq (tgt := 746) hx hb dL_law_369 (by decide) (fun _ => next σ2 τ2 (RR_B hR2 (by omega)) _ _ _ hPc hPr hS hl) (fun c9 => absurd rfl c9)

set_option maxHeartbeats 4000000 in
set_option maxRecDepth 100000 in
theorem law_4 {p : Program} {l : Launch} {e : Env} {s : State} {m : MethodId} {below : List Frame} {meth : Method} {c : Code} {b L : Nat} {xs : Nat → Int32} {dC : Nat → ClassId} {dI : Nat → Nat → Nat} {kA : Nat → ClassId} {adc adr : Nat → Nat} (C : lw_C p s m meth c dC dI kA adc adr b L xs) {i7 B : Nat} (hB : B < 800000) (h7 : i7 + 7 ≤ L) (hL : L ≤ 3584) (next : lw_N 746 p l e s m below meth c b dC dI kA adc adr i7 (B + 50)) : lw_N 374 p l e s m below meth c b dC dI kA adc adr i7 B := by
  intro σ τ hR H locs ls hPc hPr hS hl
  obtain ⟨hx, hb, hml, hown, hts, hK, hN, hX, hbl, hapc, hapr, hdis, hcA, hrA⟩ := C
  have hbA : ¬ (fun q : Nat => s.heap.size ≤ q) b := Nat.not_le.mpr hbl
  have hcA2 : ∀ q, jw_A 57 adc q → (fun q : Nat => s.heap.size ≤ q) q := fun q h => by obtain ⟨k, hk, rfl⟩ := h; exact hcA k hk
  have hrA2 : ∀ q, jw_A 32 adr q → (fun q : Nat => s.heap.size ≤ q) q := fun q h => by obtain ⟨k, hk, rfl⟩ := h; exact hrA k hk
  refine lv_aload_n hx hb dL_law_374 rfl (lv_at hl 2 rfl) ?_
  refine lv_aload_n hx hb dL_law_375 rfl (lv_at hl 3 rfl) ?_
  refine lv_iload_n hx hb dL_law_376 rfl (lv_at hl 0 rfl) ?_
  refine lv_iconst (v := 1) hx hb dL_law_377 (by decide) ?_
  refine lv_iadd hx hb dL_law_378 ?_
  refine va_sld hx hb hX hbl hbA hS (lw_in h7 hL 1 (by decide)) dL_law_379 ?_
  refine lv_aload_n hx hb dL_law_380 rfl (lv_at hl 3 rfl) ?_
  refine lv_iload_n hx hb dL_law_381 rfl (lv_at hl 0 rfl) ?_
  refine lv_iconst (v := 2) hx hb dL_law_382 (by decide) ?_
  refine lv_iadd hx hb dL_law_383 ?_
  refine va_sld hx hb hX hbl hbA hS (lw_in h7 hL 2 (by decide)) dL_law_384 ?_
  refine lv_if_eq (tgt := 392) hx hb dL_law_385 (by decide) (fun c0 => ?_) (fun c0 => ?_)
  · refine lv_iconst (v := 0) hx hb dL_law_392 (by decide) ?_
    obtain ⟨v, σ2, τ2, e1, e2, hR2⟩ := q_wake hR (xs (nI i7 + 1).toNatClampNeg) (0)
    refine lc_i (jv_runG hx hb hml hown hts hK hN hl.1 (n := 2) (As := [.int (xs (nI i7 + 1).toNatClampNeg), .int (0)]) (rest := []) (c_cX11_wake l hapc σ (xs (nI i7 + 1).toNatClampNeg) (0) (v, σ2) e1) hPc (ci := 11) (q0 := 0) rfl rfl rfl kw_499 kw_496 kw_497 kw_498 kw_52 ⟨rfl, rfl⟩ (by decide +kernel) rfl ⟨(Nat.le_of_ble_eq_true rfl), (Nat.le_of_ble_eq_true rfl)⟩ rfl (Nat.le_of_ble_eq_true rfl) dL_law_393 ⟨(Nat.le_of_ble_eq_true rfl), (Nat.le_of_ble_eq_true rfl)⟩) hS hcA2 hPr (lw_ap_r hdis) (fun H locs hPc hPr hS => ?_)
    refine lv_aload_n hx hb dL_law_396 rfl (lv_at hl 1 rfl) ?_
    refine lv_aload_n hx hb dL_law_397 rfl (lv_at hl 3 rfl) ?_
    refine lv_iload_n hx hb dL_law_398 rfl (lv_at hl 0 rfl) ?_
    refine lv_iconst (v := 1) hx hb dL_law_399 (by decide) ?_
    refine lv_iadd hx hb dL_law_400 ?_
    refine va_sld hx hb hX hbl hbA hS (lw_in h7 hL 1 (by decide)) dL_law_401 ?_
    refine lv_aload_n hx hb dL_law_402 rfl (lv_at hl 3 rfl) ?_
    refine lv_iload_n hx hb dL_law_403 rfl (lv_at hl 0 rfl) ?_
    refine lv_iconst (v := 2) hx hb dL_law_404 (by decide) ?_
    refine lv_iadd hx hb dL_law_405 ?_
    refine va_sld hx hb hX hbl hbA hS (lw_in h7 hL 2 (by decide)) dL_law_406 ?_
    refine lv_if_eq (tgt := 414) hx hb dL_law_407 (by decide) (fun _ => ?_) (fun c1 => absurd c0 c1)
    refine lv_iconst (v := 0) hx hb dL_law_414 (by decide) ?_
    refine lc_i (jv_runG hx hb hml hown hts hK hN hl.1 (n := 2) (As := [.int (xs (nI i7 + 1).toNatClampNeg), .int (0)]) (rest := [.int (v)]) (c_rX12_wake l hapr τ (xs (nI i7 + 1).toNatClampNeg) (0) (v, τ2) e2) hPr (ci := 12) (q0 := 0) rfl rfl rfl kw_950 kw_947 kw_948 kw_949 kw_64 ⟨rfl, rfl⟩ (by decide +kernel) rfl ⟨(Nat.le_of_ble_eq_true rfl), (Nat.le_of_ble_eq_true rfl)⟩ rfl (Nat.le_of_ble_eq_true rfl) dL_law_415 ⟨(Nat.le_of_ble_eq_true rfl), (Nat.le_of_ble_eq_true rfl)⟩) hS hrA2 hPc (lw_ap_c hdis) (fun H locs hPr hPc hS => ?_)
    exact lv_icmp_eq (tgt := 746) hx hb dL_law_418 (by decide) (fun _ => next σ2 τ2 (RR_B hR2 (by omega)) _ _ _ hPc hPr hS hl) (fun c9 => absurd rfl c9)
  · refine lv_iconst (v := 1) hx hb dL_law_388 (by decide) ?_
    refine lv_goto (tgt := 393) hx hb dL_law_389 (by decide) ?_
    obtain ⟨v, σ2, τ2, e1, e2, hR2⟩ := q_wake hR (xs (nI i7 + 1).toNatClampNeg) (1)
    refine lc_i (jv_runG hx hb hml hown hts hK hN hl.1 (n := 2) (As := [.int (xs (nI i7 + 1).toNatClampNeg), .int (1)]) (rest := []) (c_cX11_wake l hapc σ (xs (nI i7 + 1).toNatClampNeg) (1) (v, σ2) e1) hPc (ci := 11) (q0 := 0) rfl rfl rfl kw_499 kw_496 kw_497 kw_498 kw_52 ⟨rfl, rfl⟩ (by decide +kernel) rfl ⟨(Nat.le_of_ble_eq_true rfl), (Nat.le_of_ble_eq_true rfl)⟩ rfl (Nat.le_of_ble_eq_true rfl) dL_law_393 ⟨(Nat.le_of_ble_eq_true rfl), (Nat.le_of_ble_eq_true rfl)⟩) hS hcA2 hPr (lw_ap_r hdis) (fun H locs hPc hPr hS => ?_)
    refine lv_aload_n hx hb dL_law_396 rfl (lv_at hl 1 rfl) ?_
    refine lv_aload_n hx hb dL_law_397 rfl (lv_at hl 3 rfl) ?_
    refine lv_iload_n hx hb dL_law_398 rfl (lv_at hl 0 rfl) ?_
    refine lv_iconst (v := 1) hx hb dL_law_399 (by decide) ?_
    refine lv_iadd hx hb dL_law_400 ?_
    refine va_sld hx hb hX hbl hbA hS (lw_in h7 hL 1 (by decide)) dL_law_401 ?_
    refine lv_aload_n hx hb dL_law_402 rfl (lv_at hl 3 rfl) ?_
    refine lv_iload_n hx hb dL_law_403 rfl (lv_at hl 0 rfl) ?_
    refine lv_iconst (v := 2) hx hb dL_law_404 (by decide) ?_
    refine lv_iadd hx hb dL_law_405 ?_
    refine va_sld hx hb hX hbl hbA hS (lw_in h7 hL 2 (by decide)) dL_law_406 ?_
    refine lv_if_eq (tgt := 414) hx hb dL_law_407 (by decide) (fun c1 => absurd c1 c0) (fun _ => ?_)
    refine lv_iconst (v := 1) hx hb dL_law_410 (by decide) ?_
    refine lv_goto (tgt := 415) hx hb dL_law_411 (by decide) ?_
    refine lc_i (jv_runG hx hb hml hown hts hK hN hl.1 (n := 2) (As := [.int (xs (nI i7 + 1).toNatClampNeg), .int (1)]) (rest := [.int (v)]) (c_rX12_wake l hapr τ (xs (nI i7 + 1).toNatClampNeg) (1) (v, τ2) e2) hPr (ci := 12) (q0 := 0) rfl rfl rfl kw_950 kw_947 kw_948 kw_949 kw_64 ⟨rfl, rfl⟩ (by decide +kernel) rfl ⟨(Nat.le_of_ble_eq_true rfl), (Nat.le_of_ble_eq_true rfl)⟩ rfl (Nat.le_of_ble_eq_true rfl) dL_law_415 ⟨(Nat.le_of_ble_eq_true rfl), (Nat.le_of_ble_eq_true rfl)⟩) hS hrA2 hPc (lw_ap_c hdis) (fun H locs hPr hPc hS => ?_)
    exact lv_icmp_eq (tgt := 746) hx hb dL_law_418 (by decide) (fun _ => next σ2 τ2 (RR_B hR2 (by omega)) _ _ _ hPc hPr hS hl) (fun c9 => absurd rfl c9)

set_option maxHeartbeats 4000000 in
set_option maxRecDepth 100000 in
theorem law_5 {p : Program} {l : Launch} {e : Env} {s : State} {m : MethodId} {below : List Frame} {meth : Method} {c : Code} {b L : Nat} {xs : Nat → Int32} {dC : Nat → ClassId} {dI : Nat → Nat → Nat} {kA : Nat → ClassId} {adc adr : Nat → Nat} (C : lw_C p s m meth c dC dI kA adc adr b L xs) {i7 B : Nat} (hB : B < 800000) (h7 : i7 + 7 ≤ L) (hL : L ≤ 3584) (next : lw_N 746 p l e s m below meth c b dC dI kA adc adr i7 (B + 50)) : lw_N 423 p l e s m below meth c b dC dI kA adc adr i7 B := by
  intro σ τ hR H locs ls hPc hPr hS hl
  obtain ⟨hx, hb, hml, hown, hts, hK, hN, hX, hbl, hapc, hapr, hdis, hcA, hrA⟩ := C
  have hbA : ¬ (fun q : Nat => s.heap.size ≤ q) b := Nat.not_le.mpr hbl
  have hcA2 : ∀ q, jw_A 57 adc q → (fun q : Nat => s.heap.size ≤ q) q := fun q h => by obtain ⟨k, hk, rfl⟩ := h; exact hcA k hk
  have hrA2 : ∀ q, jw_A 32 adr q → (fun q : Nat => s.heap.size ≤ q) q := fun q h => by obtain ⟨k, hk, rfl⟩ := h; exact hrA k hk
  refine lv_aload_n hx hb dL_law_423 rfl (lv_at hl 2 rfl) ?_
  refine lv_aload_n hx hb dL_law_424 rfl (lv_at hl 3 rfl) ?_
  refine lv_iload_n hx hb dL_law_425 rfl (lv_at hl 0 rfl) ?_
  refine lv_iconst (v := 1) hx hb dL_law_426 (by decide) ?_
  refine lv_iadd hx hb dL_law_427 ?_
  refine va_sld hx hb hX hbl hbA hS (lw_in h7 hL 1 (by decide)) dL_law_428 ?_
  refine lv_aload_n hx hb dL_law_429 rfl (lv_at hl 3 rfl) ?_
  refine lv_iload_n hx hb dL_law_430 rfl (lv_at hl 0 rfl) ?_
  refine lv_iconst (v := 2) hx hb dL_law_431 (by decide) ?_
  refine lv_iadd hx hb dL_law_432 ?_
  refine va_sld hx hb hX hbl hbA hS (lw_in h7 hL 2 (by decide)) dL_law_433 ?_
  obtain ⟨v, σ2, τ2, e1, e2, hR2⟩ := q_act hR (xs (nI i7 + 1).toNatClampNeg) (xs (nI i7 + 2).toNatClampNeg)
  refine lc_i (jv_runG hx hb hml hown hts hK hN hl.1 (n := 2) (As := [.int (xs (nI i7 + 1).toNatClampNeg), .int (xs (nI i7 + 2).toNatClampNeg)]) (rest := []) (c_cX11_act l hapc σ (xs (nI i7 + 1).toNatClampNeg) (xs (nI i7 + 2).toNatClampNeg) (v, σ2) e1) hPc (ci := 11) (q0 := 0) rfl rfl rfl kw_503 kw_500 kw_501 kw_502 kw_52 ⟨rfl, rfl⟩ (by decide +kernel) rfl ⟨(Nat.le_of_ble_eq_true rfl), (Nat.le_of_ble_eq_true rfl)⟩ rfl (Nat.le_of_ble_eq_true rfl) dL_law_434 ⟨(Nat.le_of_ble_eq_true rfl), (Nat.le_of_ble_eq_true rfl)⟩) hS hcA2 hPr (lw_ap_r hdis) (fun H locs hPc hPr hS => ?_)
  refine lv_aload_n hx hb dL_law_437 rfl (lv_at hl 1 rfl) ?_
  refine lv_aload_n hx hb dL_law_438 rfl (lv_at hl 3 rfl) ?_
  refine lv_iload_n hx hb dL_law_439 rfl (lv_at hl 0 rfl) ?_
  refine lv_iconst (v := 1) hx hb dL_law_440 (by decide) ?_
  refine lv_iadd hx hb dL_law_441 ?_
  refine va_sld hx hb hX hbl hbA hS (lw_in h7 hL 1 (by decide)) dL_law_442 ?_
  refine lv_aload_n hx hb dL_law_443 rfl (lv_at hl 3 rfl) ?_
  refine lv_iload_n hx hb dL_law_444 rfl (lv_at hl 0 rfl) ?_
  refine lv_iconst (v := 2) hx hb dL_law_445 (by decide) ?_
  refine lv_iadd hx hb dL_law_446 ?_
  refine va_sld hx hb hX hbl hbA hS (lw_in h7 hL 2 (by decide)) dL_law_447 ?_
  refine lc_i (jv_runG hx hb hml hown hts hK hN hl.1 (n := 2) (As := [.int (xs (nI i7 + 1).toNatClampNeg), .int (xs (nI i7 + 2).toNatClampNeg)]) (rest := [.int (v)]) (c_rX12_act l hapr τ (xs (nI i7 + 1).toNatClampNeg) (xs (nI i7 + 2).toNatClampNeg) (v, τ2) e2) hPr (ci := 12) (q0 := 0) rfl rfl rfl kw_954 kw_951 kw_952 kw_953 kw_64 ⟨rfl, rfl⟩ (by decide +kernel) rfl ⟨(Nat.le_of_ble_eq_true rfl), (Nat.le_of_ble_eq_true rfl)⟩ rfl (Nat.le_of_ble_eq_true rfl) dL_law_448 ⟨(Nat.le_of_ble_eq_true rfl), (Nat.le_of_ble_eq_true rfl)⟩) hS hrA2 hPc (lw_ap_c hdis) (fun H locs hPr hPc hS => ?_)
  exact lv_icmp_eq (tgt := 746) hx hb dL_law_451 (by decide) (fun _ => next σ2 τ2 (RR_B hR2 (by omega)) _ _ _ hPc hPr hS hl) (fun c9 => absurd rfl c9)

set_option maxHeartbeats 4000000 in
set_option maxRecDepth 100000 in
theorem law_6 {p : Program} {l : Launch} {e : Env} {s : State} {m : MethodId} {below : List Frame} {meth : Method} {c : Code} {b L : Nat} {xs : Nat → Int32} {dC : Nat → ClassId} {dI : Nat → Nat → Nat} {kA : Nat → ClassId} {adc adr : Nat → Nat} (C : lw_C p s m meth c dC dI kA adc adr b L xs) {i7 B : Nat} (hB : B < 800000) (h7 : i7 + 7 ≤ L) (hL : L ≤ 3584) (next : lw_N 746 p l e s m below meth c b dC dI kA adc adr i7 (B + 50)) : lw_N 456 p l e s m below meth c b dC dI kA adc adr i7 B := by
  intro σ τ hR H locs ls hPc hPr hS hl
  obtain ⟨hx, hb, hml, hown, hts, hK, hN, hX, hbl, hapc, hapr, hdis, hcA, hrA⟩ := C
  have hbA : ¬ (fun q : Nat => s.heap.size ≤ q) b := Nat.not_le.mpr hbl
  have hcA2 : ∀ q, jw_A 57 adc q → (fun q : Nat => s.heap.size ≤ q) q := fun q h => by obtain ⟨k, hk, rfl⟩ := h; exact hcA k hk
  have hrA2 : ∀ q, jw_A 32 adr q → (fun q : Nat => s.heap.size ≤ q) q := fun q h => by obtain ⟨k, hk, rfl⟩ := h; exact hrA k hk
  refine lv_aload_n hx hb dL_law_456 rfl (lv_at hl 2 rfl) ?_
  refine lv_aload_n hx hb dL_law_457 rfl (lv_at hl 3 rfl) ?_
  refine lv_iload_n hx hb dL_law_458 rfl (lv_at hl 0 rfl) ?_
  refine lv_iconst (v := 1) hx hb dL_law_459 (by decide) ?_
  refine lv_iadd hx hb dL_law_460 ?_
  refine va_sld hx hb hX hbl hbA hS (lw_in h7 hL 1 (by decide)) dL_law_461 ?_
  obtain ⟨v, σ2, τ2, e1, e2, hR2⟩ := q_fold hR (xs (nI i7 + 1).toNatClampNeg)
  refine lc_i (jv_runG hx hb hml hown hts hK hN hl.1 (n := 1) (As := [.int (xs (nI i7 + 1).toNatClampNeg)]) (rest := []) (c_cX11_fold l hapc σ (xs (nI i7 + 1).toNatClampNeg) (v, σ2) e1) hPc (ci := 11) (q0 := 0) rfl rfl rfl kw_508 kw_505 kw_506 kw_507 kw_52 ⟨rfl, rfl⟩ (by decide +kernel) rfl ⟨(Nat.le_of_ble_eq_true rfl), (Nat.le_of_ble_eq_true rfl)⟩ rfl (Nat.le_of_ble_eq_true rfl) dL_law_462 ⟨(Nat.le_of_ble_eq_true rfl), (Nat.le_of_ble_eq_true rfl)⟩) hS hcA2 hPr (lw_ap_r hdis) (fun H locs hPc hPr hS => ?_)
  refine lv_aload_n hx hb dL_law_465 rfl (lv_at hl 1 rfl) ?_
  refine lv_aload_n hx hb dL_law_466 rfl (lv_at hl 3 rfl) ?_
  refine lv_iload_n hx hb dL_law_467 rfl (lv_at hl 0 rfl) ?_
  refine lv_iconst (v := 1) hx hb dL_law_468 (by decide) ?_
  refine lv_iadd hx hb dL_law_469 ?_
  refine va_sld hx hb hX hbl hbA hS (lw_in h7 hL 1 (by decide)) dL_law_470 ?_
  refine lc_i (jv_runG hx hb hml hown hts hK hN hl.1 (n := 1) (As := [.int (xs (nI i7 + 1).toNatClampNeg)]) (rest := [.int (v)]) (c_rX12_fold l hapr τ (xs (nI i7 + 1).toNatClampNeg) (v, τ2) e2) hPr (ci := 12) (q0 := 0) rfl rfl rfl kw_958 kw_955 kw_956 kw_957 kw_64 ⟨rfl, rfl⟩ (by decide +kernel) rfl ⟨(Nat.le_of_ble_eq_true rfl), (Nat.le_of_ble_eq_true rfl)⟩ rfl (Nat.le_of_ble_eq_true rfl) dL_law_471 ⟨(Nat.le_of_ble_eq_true rfl), (Nat.le_of_ble_eq_true rfl)⟩) hS hrA2 hPc (lw_ap_c hdis) (fun H locs hPr hPc hS => ?_)
  exact lv_icmp_eq (tgt := 746) hx hb dL_law_474 (by decide) (fun _ => next σ2 τ2 (RR_B hR2 (by omega)) _ _ _ hPc hPr hS hl) (fun c9 => absurd rfl c9)

set_option maxHeartbeats 4000000 in
set_option maxRecDepth 100000 in
theorem law_7 {p : Program} {l : Launch} {e : Env} {s : State} {m : MethodId} {below : List Frame} {meth : Method} {c : Code} {b L : Nat} {xs : Nat → Int32} {dC : Nat → ClassId} {dI : Nat → Nat → Nat} {kA : Nat → ClassId} {adc adr : Nat → Nat} (C : lw_C p s m meth c dC dI kA adc adr b L xs) {i7 B : Nat} (hB : B < 800000) (h7 : i7 + 7 ≤ L) (hL : L ≤ 3584) (next : lw_N 746 p l e s m below meth c b dC dI kA adc adr i7 (B + 50)) : lw_N 479 p l e s m below meth c b dC dI kA adc adr i7 B := by
  intro σ τ hR H locs ls hPc hPr hS hl
  obtain ⟨hx, hb, hml, hown, hts, hK, hN, hX, hbl, hapc, hapr, hdis, hcA, hrA⟩ := C
  have hbA : ¬ (fun q : Nat => s.heap.size ≤ q) b := Nat.not_le.mpr hbl
  have hcA2 : ∀ q, jw_A 57 adc q → (fun q : Nat => s.heap.size ≤ q) q := fun q h => by obtain ⟨k, hk, rfl⟩ := h; exact hcA k hk
  have hrA2 : ∀ q, jw_A 32 adr q → (fun q : Nat => s.heap.size ≤ q) q := fun q h => by obtain ⟨k, hk, rfl⟩ := h; exact hrA k hk
  refine lv_aload_n hx hb dL_law_479 rfl (lv_at hl 2 rfl) ?_
  refine lv_aload_n hx hb dL_law_480 rfl (lv_at hl 3 rfl) ?_
  refine lv_iload_n hx hb dL_law_481 rfl (lv_at hl 0 rfl) ?_
  refine lv_iconst (v := 1) hx hb dL_law_482 (by decide) ?_
  refine lv_iadd hx hb dL_law_483 ?_
  refine va_sld hx hb hX hbl hbA hS (lw_in h7 hL 1 (by decide)) dL_law_484 ?_
  refine lv_aload_n hx hb dL_law_485 rfl (lv_at hl 3 rfl) ?_
  refine lv_iload_n hx hb dL_law_486 rfl (lv_at hl 0 rfl) ?_
  refine lv_iconst (v := 2) hx hb dL_law_487 (by decide) ?_
  refine lv_iadd hx hb dL_law_488 ?_
  refine va_sld hx hb hX hbl hbA hS (lw_in h7 hL 2 (by decide)) dL_law_489 ?_
  obtain ⟨v, σ2, τ2, e1, e2, hR2⟩ := q_run hR hB (xs (nI i7 + 1).toNatClampNeg) (xs (nI i7 + 2).toNatClampNeg)
  refine lc_i (jv_runG hx hb hml hown hts hK hN hl.1 (n := 2) (As := [.int (xs (nI i7 + 1).toNatClampNeg), .int (xs (nI i7 + 2).toNatClampNeg)]) (rest := []) (c_cX11_run l hapc σ (xs (nI i7 + 1).toNatClampNeg) (xs (nI i7 + 2).toNatClampNeg) (v, σ2) e1) hPc (ci := 11) (q0 := 0) rfl rfl rfl kw_512 kw_509 kw_510 kw_511 kw_52 ⟨rfl, rfl⟩ (by decide +kernel) rfl ⟨(Nat.le_of_ble_eq_true rfl), (Nat.le_of_ble_eq_true rfl)⟩ rfl (Nat.le_of_ble_eq_true rfl) dL_law_490 ⟨(Nat.le_of_ble_eq_true rfl), (Nat.le_of_ble_eq_true rfl)⟩) hS hcA2 hPr (lw_ap_r hdis) (fun H locs hPc hPr hS => ?_)
  refine lv_aload_n hx hb dL_law_493 rfl (lv_at hl 1 rfl) ?_
  refine lv_aload_n hx hb dL_law_494 rfl (lv_at hl 3 rfl) ?_
  refine lv_iload_n hx hb dL_law_495 rfl (lv_at hl 0 rfl) ?_
  refine lv_iconst (v := 1) hx hb dL_law_496 (by decide) ?_
  refine lv_iadd hx hb dL_law_497 ?_
  refine va_sld hx hb hX hbl hbA hS (lw_in h7 hL 1 (by decide)) dL_law_498 ?_
  refine lv_aload_n hx hb dL_law_499 rfl (lv_at hl 3 rfl) ?_
  refine lv_iload_n hx hb dL_law_500 rfl (lv_at hl 0 rfl) ?_
  refine lv_iconst (v := 2) hx hb dL_law_501 (by decide) ?_
  refine lv_iadd hx hb dL_law_502 ?_
  refine va_sld hx hb hX hbl hbA hS (lw_in h7 hL 2 (by decide)) dL_law_503 ?_
  refine lc_i (jv_runG hx hb hml hown hts hK hN hl.1 (n := 2) (As := [.int (xs (nI i7 + 1).toNatClampNeg), .int (xs (nI i7 + 2).toNatClampNeg)]) (rest := [.int (v)]) (c_rX12_run l hapr τ (xs (nI i7 + 1).toNatClampNeg) (xs (nI i7 + 2).toNatClampNeg) (v, τ2) e2) hPr (ci := 12) (q0 := 0) rfl rfl rfl kw_962 kw_959 kw_960 kw_961 kw_64 ⟨rfl, rfl⟩ (by decide +kernel) rfl ⟨(Nat.le_of_ble_eq_true rfl), (Nat.le_of_ble_eq_true rfl)⟩ rfl (Nat.le_of_ble_eq_true rfl) dL_law_504 ⟨(Nat.le_of_ble_eq_true rfl), (Nat.le_of_ble_eq_true rfl)⟩) hS hrA2 hPc (lw_ap_c hdis) (fun H locs hPr hPc hS => ?_)
  exact lv_icmp_eq (tgt := 746) hx hb dL_law_507 (by decide) (fun _ => next σ2 τ2 (RR_B hR2 (Nat.le_refl _)) _ _ _ hPc hPr hS hl) (fun c9 => absurd rfl c9)

set_option maxHeartbeats 4000000 in
set_option maxRecDepth 100000 in
theorem law_8 {p : Program} {l : Launch} {e : Env} {s : State} {m : MethodId} {below : List Frame} {meth : Method} {c : Code} {b L : Nat} {xs : Nat → Int32} {dC : Nat → ClassId} {dI : Nat → Nat → Nat} {kA : Nat → ClassId} {adc adr : Nat → Nat} (C : lw_C p s m meth c dC dI kA adc adr b L xs) {i7 B : Nat} (hB : B < 800000) (h7 : i7 + 7 ≤ L) (hL : L ≤ 3584) (next : lw_N 746 p l e s m below meth c b dC dI kA adc adr i7 (B + 50)) : lw_N 512 p l e s m below meth c b dC dI kA adc adr i7 B := by
  intro σ τ hR H locs ls hPc hPr hS hl
  obtain ⟨hx, hb, hml, hown, hts, hK, hN, hX, hbl, hapc, hapr, hdis, hcA, hrA⟩ := C
  have hbA : ¬ (fun q : Nat => s.heap.size ≤ q) b := Nat.not_le.mpr hbl
  have hcA2 : ∀ q, jw_A 57 adc q → (fun q : Nat => s.heap.size ≤ q) q := fun q h => by obtain ⟨k, hk, rfl⟩ := h; exact hcA k hk
  have hrA2 : ∀ q, jw_A 32 adr q → (fun q : Nat => s.heap.size ≤ q) q := fun q h => by obtain ⟨k, hk, rfl⟩ := h; exact hrA k hk
  refine lv_aload_n hx hb dL_law_512 rfl (lv_at hl 2 rfl) ?_
  obtain ⟨v, σ2, τ2, e1, e2, hR2⟩ := q_undo hR hB
  refine lc_i (jv_runG hx hb hml hown hts hK hN hl.1 (n := 0) (As := []) (rest := []) (c_cX11_undo l hapc σ (v, σ2) e1) hPc (ci := 11) (q0 := 0) rfl rfl rfl kw_691 kw_688 kw_689 kw_690 kw_52 ⟨rfl, rfl⟩ (by decide +kernel) rfl ⟨(Nat.le_of_ble_eq_true rfl), (Nat.le_of_ble_eq_true rfl)⟩ rfl (Nat.le_of_ble_eq_true rfl) dL_law_513 ⟨(Nat.le_of_ble_eq_true rfl), (Nat.le_of_ble_eq_true rfl)⟩) hS hcA2 hPr (lw_ap_r hdis) (fun H locs hPc hPr hS => ?_)
  refine lv_aload_n hx hb dL_law_516 rfl (lv_at hl 1 rfl) ?_
  refine lc_i (jv_runG hx hb hml hown hts hK hN hl.1 (n := 0) (As := []) (rest := [.int (v)]) (c_rX12_undo l hapr τ (v, τ2) e2) hPr (ci := 12) (q0 := 0) rfl rfl rfl kw_1062 kw_1059 kw_1060 kw_1061 kw_64 ⟨rfl, rfl⟩ (by decide +kernel) rfl ⟨(Nat.le_of_ble_eq_true rfl), (Nat.le_of_ble_eq_true rfl)⟩ rfl (Nat.le_of_ble_eq_true rfl) dL_law_517 ⟨(Nat.le_of_ble_eq_true rfl), (Nat.le_of_ble_eq_true rfl)⟩) hS hrA2 hPc (lw_ap_c hdis) (fun H locs hPr hPc hS => ?_)
  exact lv_icmp_eq (tgt := 746) hx hb dL_law_520 (by decide) (fun _ => next σ2 τ2 (RR_B hR2 (by omega)) _ _ _ hPc hPr hS hl) (fun c9 => absurd rfl c9)

set_option maxHeartbeats 4000000 in
set_option maxRecDepth 100000 in
theorem law_9 {p : Program} {l : Launch} {e : Env} {s : State} {m : MethodId} {below : List Frame} {meth : Method} {c : Code} {b L : Nat} {xs : Nat → Int32} {dC : Nat → ClassId} {dI : Nat → Nat → Nat} {kA : Nat → ClassId} {adc adr : Nat → Nat} (C : lw_C p s m meth c dC dI kA adc adr b L xs) {i7 B : Nat} (hB : B < 800000) (h7 : i7 + 7 ≤ L) (hL : L ≤ 3584) (next : lw_N 746 p l e s m below meth c b dC dI kA adc adr i7 (B + 50)) : lw_N 525 p l e s m below meth c b dC dI kA adc adr i7 B := by
  intro σ τ hR H locs ls hPc hPr hS hl
  obtain ⟨hx, hb, hml, hown, hts, hK, hN, hX, hbl, hapc, hapr, hdis, hcA, hrA⟩ := C
  have hbA : ¬ (fun q : Nat => s.heap.size ≤ q) b := Nat.not_le.mpr hbl
  have hcA2 : ∀ q, jw_A 57 adc q → (fun q : Nat => s.heap.size ≤ q) q := fun q h => by obtain ⟨k, hk, rfl⟩ := h; exact hcA k hk
  have hrA2 : ∀ q, jw_A 32 adr q → (fun q : Nat => s.heap.size ≤ q) q := fun q h => by obtain ⟨k, hk, rfl⟩ := h; exact hrA k hk
  refine lv_aload_n hx hb dL_law_525 rfl (lv_at hl 2 rfl) ?_
  refine lv_aload_n hx hb dL_law_526 rfl (lv_at hl 3 rfl) ?_
  refine lv_iload_n hx hb dL_law_527 rfl (lv_at hl 0 rfl) ?_
  refine lv_iconst (v := 1) hx hb dL_law_528 (by decide) ?_
  refine lv_iadd hx hb dL_law_529 ?_
  refine va_sld hx hb hX hbl hbA hS (lw_in h7 hL 1 (by decide)) dL_law_530 ?_
  obtain ⟨v, σ2, τ2, e1, e2, hR2⟩ := q_failed hR (xs (nI i7 + 1).toNatClampNeg)
  refine lc_i (jv_runG hx hb hml hown hts hK hN hl.1 (n := 1) (As := [.int (xs (nI i7 + 1).toNatClampNeg)]) (rest := []) (c_cX11_failed l hapc σ (xs (nI i7 + 1).toNatClampNeg) (v, σ2) e1) hPc (ci := 11) (q0 := 0) rfl rfl rfl kw_699 kw_696 kw_697 kw_698 kw_52 ⟨rfl, rfl⟩ (by decide +kernel) rfl ⟨(Nat.le_of_ble_eq_true rfl), (Nat.le_of_ble_eq_true rfl)⟩ rfl (Nat.le_of_ble_eq_true rfl) dL_law_531 ⟨(Nat.le_of_ble_eq_true rfl), (Nat.le_of_ble_eq_true rfl)⟩) hS hcA2 hPr (lw_ap_r hdis) (fun H locs hPc hPr hS => ?_)
  refine lv_aload_n hx hb dL_law_534 rfl (lv_at hl 1 rfl) ?_
  refine lv_aload_n hx hb dL_law_535 rfl (lv_at hl 3 rfl) ?_
  refine lv_iload_n hx hb dL_law_536 rfl (lv_at hl 0 rfl) ?_
  refine lv_iconst (v := 1) hx hb dL_law_537 (by decide) ?_
  refine lv_iadd hx hb dL_law_538 ?_
  refine va_sld hx hb hX hbl hbA hS (lw_in h7 hL 1 (by decide)) dL_law_539 ?_
  refine lc_i (jv_runG hx hb hml hown hts hK hN hl.1 (n := 1) (As := [.int (xs (nI i7 + 1).toNatClampNeg)]) (rest := [.int (v)]) (c_rX12_failed l hapr τ (xs (nI i7 + 1).toNatClampNeg) (v, τ2) e2) hPr (ci := 12) (q0 := 0) rfl rfl rfl kw_1066 kw_1063 kw_1064 kw_1065 kw_64 ⟨rfl, rfl⟩ (by decide +kernel) rfl ⟨(Nat.le_of_ble_eq_true rfl), (Nat.le_of_ble_eq_true rfl)⟩ rfl (Nat.le_of_ble_eq_true rfl) dL_law_540 ⟨(Nat.le_of_ble_eq_true rfl), (Nat.le_of_ble_eq_true rfl)⟩) hS hrA2 hPc (lw_ap_c hdis) (fun H locs hPr hPc hS => ?_)
  exact lv_icmp_eq (tgt := 746) hx hb dL_law_543 (by decide) (fun _ => next σ2 τ2 (RR_B hR2 (by omega)) _ _ _ hPc hPr hS hl) (fun c9 => absurd rfl c9)

set_option maxHeartbeats 4000000 in
set_option maxRecDepth 100000 in
theorem law_10 {p : Program} {l : Launch} {e : Env} {s : State} {m : MethodId} {below : List Frame} {meth : Method} {c : Code} {b L : Nat} {xs : Nat → Int32} {dC : Nat → ClassId} {dI : Nat → Nat → Nat} {kA : Nat → ClassId} {adc adr : Nat → Nat} (C : lw_C p s m meth c dC dI kA adc adr b L xs) {i7 B : Nat} (hB : B < 800000) (h7 : i7 + 7 ≤ L) (hL : L ≤ 3584) (next : lw_N 746 p l e s m below meth c b dC dI kA adc adr i7 (B + 50)) : lw_N 548 p l e s m below meth c b dC dI kA adc adr i7 B := by
  intro σ τ hR H locs ls hPc hPr hS hl
  obtain ⟨hx, hb, hml, hown, hts, hK, hN, hX, hbl, hapc, hapr, hdis, hcA, hrA⟩ := C
  have hbA : ¬ (fun q : Nat => s.heap.size ≤ q) b := Nat.not_le.mpr hbl
  have hcA2 : ∀ q, jw_A 57 adc q → (fun q : Nat => s.heap.size ≤ q) q := fun q h => by obtain ⟨k, hk, rfl⟩ := h; exact hcA k hk
  have hrA2 : ∀ q, jw_A 32 adr q → (fun q : Nat => s.heap.size ≤ q) q := fun q h => by obtain ⟨k, hk, rfl⟩ := h; exact hrA k hk
  refine lv_aload_n hx hb dL_law_548 rfl (lv_at hl 2 rfl) ?_
  refine lv_aload_n hx hb dL_law_549 rfl (lv_at hl 3 rfl) ?_
  refine lv_iload_n hx hb dL_law_550 rfl (lv_at hl 0 rfl) ?_
  refine lv_iconst (v := 1) hx hb dL_law_551 (by decide) ?_
  refine lv_iadd hx hb dL_law_552 ?_
  refine va_sld hx hb hX hbl hbA hS (lw_in h7 hL 1 (by decide)) dL_law_553 ?_
  refine lv_aload_n hx hb dL_law_554 rfl (lv_at hl 3 rfl) ?_
  refine lv_iload_n hx hb dL_law_555 rfl (lv_at hl 0 rfl) ?_
  refine lv_iconst (v := 2) hx hb dL_law_556 (by decide) ?_
  refine lv_iadd hx hb dL_law_557 ?_
  refine va_sld hx hb hX hbl hbA hS (lw_in h7 hL 2 (by decide)) dL_law_558 ?_
  refine lv_aload_n hx hb dL_law_559 rfl (lv_at hl 3 rfl) ?_
  refine lv_iload_n hx hb dL_law_560 rfl (lv_at hl 0 rfl) ?_
  refine lv_iconst (v := 3) hx hb dL_law_561 (by decide) ?_
  refine lv_iadd hx hb dL_law_562 ?_
  refine va_sld hx hb hX hbl hbA hS (lw_in h7 hL 3 (by decide)) dL_law_563 ?_
  obtain ⟨v, σ2, τ2, e1, e2, hR2⟩ := q_ask hR (xs (nI i7 + 1).toNatClampNeg) (xs (nI i7 + 2).toNatClampNeg) (xs (nI i7 + 3).toNatClampNeg)
  refine lc_l (jv_runG hx hb hml hown hts hK hN hl.1 (n := 3) (As := [.int (xs (nI i7 + 1).toNatClampNeg), .int (xs (nI i7 + 2).toNatClampNeg), .int (xs (nI i7 + 3).toNatClampNeg)]) (rest := []) (c_cX11_ask l hapc σ (xs (nI i7 + 1).toNatClampNeg) (xs (nI i7 + 2).toNatClampNeg) (xs (nI i7 + 3).toNatClampNeg) (v, σ2) e1) hPc (ci := 11) (q0 := 0) rfl rfl rfl kw_707 kw_704 kw_705 kw_706 kw_52 ⟨rfl, rfl⟩ (by decide +kernel) rfl ⟨(Nat.le_of_ble_eq_true rfl), (Nat.le_of_ble_eq_true rfl)⟩ rfl (Nat.le_of_ble_eq_true rfl) dL_law_564 ⟨(Nat.le_of_ble_eq_true rfl), (Nat.le_of_ble_eq_true rfl)⟩) hS hcA2 hPr (lw_ap_r hdis) (fun H locs hPc hPr hS => ?_)
  refine lv_aload_n hx hb dL_law_567 rfl (lv_at hl 1 rfl) ?_
  refine lv_aload_n hx hb dL_law_568 rfl (lv_at hl 3 rfl) ?_
  refine lv_iload_n hx hb dL_law_569 rfl (lv_at hl 0 rfl) ?_
  refine lv_iconst (v := 1) hx hb dL_law_570 (by decide) ?_
  refine lv_iadd hx hb dL_law_571 ?_
  refine va_sld hx hb hX hbl hbA hS (lw_in h7 hL 1 (by decide)) dL_law_572 ?_
  refine lv_aload_n hx hb dL_law_573 rfl (lv_at hl 3 rfl) ?_
  refine lv_iload_n hx hb dL_law_574 rfl (lv_at hl 0 rfl) ?_
  refine lv_iconst (v := 2) hx hb dL_law_575 (by decide) ?_
  refine lv_iadd hx hb dL_law_576 ?_
  refine va_sld hx hb hX hbl hbA hS (lw_in h7 hL 2 (by decide)) dL_law_577 ?_
  refine lv_aload_n hx hb dL_law_578 rfl (lv_at hl 3 rfl) ?_
  refine lv_iload_n hx hb dL_law_579 rfl (lv_at hl 0 rfl) ?_
  refine lv_iconst (v := 3) hx hb dL_law_580 (by decide) ?_
  refine lv_iadd hx hb dL_law_581 ?_
  refine va_sld hx hb hX hbl hbA hS (lw_in h7 hL 3 (by decide)) dL_law_582 ?_
  refine lc_l (jv_runG hx hb hml hown hts hK hN hl.1 (n := 3) (As := [.int (xs (nI i7 + 1).toNatClampNeg), .int (xs (nI i7 + 2).toNatClampNeg), .int (xs (nI i7 + 3).toNatClampNeg)]) (rest := [.long (v)]) (c_rX12_ask l hapr τ (xs (nI i7 + 1).toNatClampNeg) (xs (nI i7 + 2).toNatClampNeg) (xs (nI i7 + 3).toNatClampNeg) (v, τ2) e2) hPr (ci := 12) (q0 := 0) rfl rfl rfl kw_1070 kw_1067 kw_1068 kw_1069 kw_64 ⟨rfl, rfl⟩ (by decide +kernel) rfl ⟨(Nat.le_of_ble_eq_true rfl), (Nat.le_of_ble_eq_true rfl)⟩ rfl (Nat.le_of_ble_eq_true rfl) dL_law_583 ⟨(Nat.le_of_ble_eq_true rfl), (Nat.le_of_ble_eq_true rfl)⟩) hS hrA2 hPc (lw_ap_c hdis) (fun H locs hPr hPc hS => ?_)
  exact W.lcmp hx hb dL_law_586 (lv_if_eq (tgt := 746) hx hb dL_law_587 (by decide) (fun _ => next σ2 τ2 (RR_B hR2 (by omega)) _ _ _ hPc hPr hS hl) (fun c9 => absurd ((lg_cmp_eq v v).mpr rfl) c9))

set_option maxHeartbeats 4000000 in
set_option maxRecDepth 100000 in
theorem law_11 {p : Program} {l : Launch} {e : Env} {s : State} {m : MethodId} {below : List Frame} {meth : Method} {c : Code} {b L : Nat} {xs : Nat → Int32} {dC : Nat → ClassId} {dI : Nat → Nat → Nat} {kA : Nat → ClassId} {adc adr : Nat → Nat} (C : lw_C p s m meth c dC dI kA adc adr b L xs) {i7 B : Nat} (hB : B < 800000) (h7 : i7 + 7 ≤ L) (hL : L ≤ 3584) (next : lw_N 746 p l e s m below meth c b dC dI kA adc adr i7 (B + 50)) : lw_N 592 p l e s m below meth c b dC dI kA adc adr i7 B := by
  intro σ τ hR H locs ls hPc hPr hS hl
  obtain ⟨hx, hb, hml, hown, hts, hK, hN, hX, hbl, hapc, hapr, hdis, hcA, hrA⟩ := C
  have hbA : ¬ (fun q : Nat => s.heap.size ≤ q) b := Nat.not_le.mpr hbl
  have hcA2 : ∀ q, jw_A 57 adc q → (fun q : Nat => s.heap.size ≤ q) q := fun q h => by obtain ⟨k, hk, rfl⟩ := h; exact hcA k hk
  have hrA2 : ∀ q, jw_A 32 adr q → (fun q : Nat => s.heap.size ≤ q) q := fun q h => by obtain ⟨k, hk, rfl⟩ := h; exact hrA k hk
  refine lv_aload_n hx hb dL_law_592 rfl (lv_at hl 2 rfl) ?_
  obtain ⟨v, σ2, τ2, e1, e2, hR2⟩ := q_why hR
  refine lc_i (jv_runG hx hb hml hown hts hK hN hl.1 (n := 0) (As := []) (rest := []) (c_cX11_why l hapc σ (v, σ2) e1) hPc (ci := 11) (q0 := 0) rfl rfl rfl kw_718 kw_715 kw_716 kw_717 kw_52 ⟨rfl, rfl⟩ (by decide +kernel) rfl ⟨(Nat.le_of_ble_eq_true rfl), (Nat.le_of_ble_eq_true rfl)⟩ rfl (Nat.le_of_ble_eq_true rfl) dL_law_593 ⟨(Nat.le_of_ble_eq_true rfl), (Nat.le_of_ble_eq_true rfl)⟩) hS hcA2 hPr (lw_ap_r hdis) (fun H locs hPc hPr hS => ?_)
  refine lv_aload_n hx hb dL_law_596 rfl (lv_at hl 1 rfl) ?_
  refine lc_i (jv_runG hx hb hml hown hts hK hN hl.1 (n := 0) (As := []) (rest := [.int (v)]) (c_rX12_why l hapr τ (v, τ2) e2) hPr (ci := 12) (q0 := 0) rfl rfl rfl kw_1079 kw_1076 kw_1077 kw_1078 kw_64 ⟨rfl, rfl⟩ (by decide +kernel) rfl ⟨(Nat.le_of_ble_eq_true rfl), (Nat.le_of_ble_eq_true rfl)⟩ rfl (Nat.le_of_ble_eq_true rfl) dL_law_597 ⟨(Nat.le_of_ble_eq_true rfl), (Nat.le_of_ble_eq_true rfl)⟩) hS hrA2 hPc (lw_ap_c hdis) (fun H locs hPr hPc hS => ?_)
  exact lv_icmp_eq (tgt := 746) hx hb dL_law_600 (by decide) (fun _ => next σ2 τ2 (RR_B hR2 (by omega)) _ _ _ hPc hPr hS hl) (fun c9 => absurd rfl c9)

set_option maxHeartbeats 4000000 in
set_option maxRecDepth 100000 in
theorem law_12 {p : Program} {l : Launch} {e : Env} {s : State} {m : MethodId} {below : List Frame} {meth : Method} {c : Code} {b L : Nat} {xs : Nat → Int32} {dC : Nat → ClassId} {dI : Nat → Nat → Nat} {kA : Nat → ClassId} {adc adr : Nat → Nat} (C : lw_C p s m meth c dC dI kA adc adr b L xs) {i7 B : Nat} (hB : B < 800000) (h7 : i7 + 7 ≤ L) (hL : L ≤ 3584) (next : lw_N 746 p l e s m below meth c b dC dI kA adc adr i7 (B + 50)) : lw_N 605 p l e s m below meth c b dC dI kA adc adr i7 B := by
  intro σ τ hR H locs ls hPc hPr hS hl
  obtain ⟨hx, hb, hml, hown, hts, hK, hN, hX, hbl, hapc, hapr, hdis, hcA, hrA⟩ := C
  have hbA : ¬ (fun q : Nat => s.heap.size ≤ q) b := Nat.not_le.mpr hbl
  have hcA2 : ∀ q, jw_A 57 adc q → (fun q : Nat => s.heap.size ≤ q) q := fun q h => by obtain ⟨k, hk, rfl⟩ := h; exact hcA k hk
  have hrA2 : ∀ q, jw_A 32 adr q → (fun q : Nat => s.heap.size ≤ q) q := fun q h => by obtain ⟨k, hk, rfl⟩ := h; exact hrA k hk
  refine lv_aload_n hx hb dL_law_605 rfl (lv_at hl 2 rfl) ?_
  refine lv_aload_n hx hb dL_law_606 rfl (lv_at hl 3 rfl) ?_
  refine lv_iload_n hx hb dL_law_607 rfl (lv_at hl 0 rfl) ?_
  refine lv_iconst (v := 1) hx hb dL_law_608 (by decide) ?_
  refine lv_iadd hx hb dL_law_609 ?_
  refine va_sld hx hb hX hbl hbA hS (lw_in h7 hL 1 (by decide)) dL_law_610 ?_
  refine lv_aload_n hx hb dL_law_611 rfl (lv_at hl 3 rfl) ?_
  refine lv_iload_n hx hb dL_law_612 rfl (lv_at hl 0 rfl) ?_
  refine lv_iconst (v := 2) hx hb dL_law_613 (by decide) ?_
  refine lv_iadd hx hb dL_law_614 ?_
  refine va_sld hx hb hX hbl hbA hS (lw_in h7 hL 2 (by decide)) dL_law_615 ?_
  obtain ⟨v, σ2, τ2, e1, e2, hR2⟩ := q_state hR (xs (nI i7 + 1).toNatClampNeg) (xs (nI i7 + 2).toNatClampNeg)
  refine lc_l (jv_runG hx hb hml hown hts hK hN hl.1 (n := 2) (As := [.int (xs (nI i7 + 1).toNatClampNeg), .int (xs (nI i7 + 2).toNatClampNeg)]) (rest := []) (c_cX11_state l hapc σ (xs (nI i7 + 1).toNatClampNeg) (xs (nI i7 + 2).toNatClampNeg) (v, σ2) e1) hPc (ci := 11) (q0 := 0) rfl rfl rfl kw_722 kw_719 kw_720 kw_721 kw_52 ⟨rfl, rfl⟩ (by decide +kernel) rfl ⟨(Nat.le_of_ble_eq_true rfl), (Nat.le_of_ble_eq_true rfl)⟩ rfl (Nat.le_of_ble_eq_true rfl) dL_law_616 ⟨(Nat.le_of_ble_eq_true rfl), (Nat.le_of_ble_eq_true rfl)⟩) hS hcA2 hPr (lw_ap_r hdis) (fun H locs hPc hPr hS => ?_)
  refine lv_aload_n hx hb dL_law_619 rfl (lv_at hl 1 rfl) ?_
  refine lv_aload_n hx hb dL_law_620 rfl (lv_at hl 3 rfl) ?_
  refine lv_iload_n hx hb dL_law_621 rfl (lv_at hl 0 rfl) ?_
  refine lv_iconst (v := 1) hx hb dL_law_622 (by decide) ?_
  refine lv_iadd hx hb dL_law_623 ?_
  refine va_sld hx hb hX hbl hbA hS (lw_in h7 hL 1 (by decide)) dL_law_624 ?_
  refine lv_aload_n hx hb dL_law_625 rfl (lv_at hl 3 rfl) ?_
  refine lv_iload_n hx hb dL_law_626 rfl (lv_at hl 0 rfl) ?_
  refine lv_iconst (v := 2) hx hb dL_law_627 (by decide) ?_
  refine lv_iadd hx hb dL_law_628 ?_
  refine va_sld hx hb hX hbl hbA hS (lw_in h7 hL 2 (by decide)) dL_law_629 ?_
  refine lc_l (jv_runG hx hb hml hown hts hK hN hl.1 (n := 2) (As := [.int (xs (nI i7 + 1).toNatClampNeg), .int (xs (nI i7 + 2).toNatClampNeg)]) (rest := [.long (v)]) (c_rX12_state l hapr τ (xs (nI i7 + 1).toNatClampNeg) (xs (nI i7 + 2).toNatClampNeg) (v, τ2) e2) hPr (ci := 12) (q0 := 0) rfl rfl rfl kw_1083 kw_1080 kw_1081 kw_1082 kw_64 ⟨rfl, rfl⟩ (by decide +kernel) rfl ⟨(Nat.le_of_ble_eq_true rfl), (Nat.le_of_ble_eq_true rfl)⟩ rfl (Nat.le_of_ble_eq_true rfl) dL_law_630 ⟨(Nat.le_of_ble_eq_true rfl), (Nat.le_of_ble_eq_true rfl)⟩) hS hrA2 hPc (lw_ap_c hdis) (fun H locs hPr hPc hS => ?_)
  exact W.lcmp hx hb dL_law_633 (lv_if_eq (tgt := 746) hx hb dL_law_634 (by decide) (fun _ => next σ2 τ2 (RR_B hR2 (by omega)) _ _ _ hPc hPr hS hl) (fun c9 => absurd ((lg_cmp_eq v v).mpr rfl) c9))

set_option maxHeartbeats 4000000 in
set_option maxRecDepth 100000 in
theorem law_13 {p : Program} {l : Launch} {e : Env} {s : State} {m : MethodId} {below : List Frame} {meth : Method} {c : Code} {b L : Nat} {xs : Nat → Int32} {dC : Nat → ClassId} {dI : Nat → Nat → Nat} {kA : Nat → ClassId} {adc adr : Nat → Nat} (C : lw_C p s m meth c dC dI kA adc adr b L xs) {i7 B : Nat} (hB : B < 800000) (h7 : i7 + 7 ≤ L) (hL : L ≤ 3584) (next : lw_N 746 p l e s m below meth c b dC dI kA adc adr i7 (B + 50)) : lw_N 639 p l e s m below meth c b dC dI kA adc adr i7 B := by
  intro σ τ hR H locs ls hPc hPr hS hl
  obtain ⟨hx, hb, hml, hown, hts, hK, hN, hX, hbl, hapc, hapr, hdis, hcA, hrA⟩ := C
  have hbA : ¬ (fun q : Nat => s.heap.size ≤ q) b := Nat.not_le.mpr hbl
  have hcA2 : ∀ q, jw_A 57 adc q → (fun q : Nat => s.heap.size ≤ q) q := fun q h => by obtain ⟨k, hk, rfl⟩ := h; exact hcA k hk
  have hrA2 : ∀ q, jw_A 32 adr q → (fun q : Nat => s.heap.size ≤ q) q := fun q h => by obtain ⟨k, hk, rfl⟩ := h; exact hrA k hk
  refine lv_aload_n hx hb dL_law_639 rfl (lv_at hl 2 rfl) ?_
  obtain ⟨v, σ2, τ2, e1, e2, hR2⟩ := q_whole hR
  refine lc_l (jv_runG hx hb hml hown hts hK hN hl.1 (n := 0) (As := []) (rest := []) (c_cX11_whole l hapc σ (v, σ2) e1) hPc (ci := 11) (q0 := 0) rfl rfl rfl kw_727 kw_724 kw_725 kw_726 kw_52 ⟨rfl, rfl⟩ (by decide +kernel) rfl ⟨(Nat.le_of_ble_eq_true rfl), (Nat.le_of_ble_eq_true rfl)⟩ rfl (Nat.le_of_ble_eq_true rfl) dL_law_640 ⟨(Nat.le_of_ble_eq_true rfl), (Nat.le_of_ble_eq_true rfl)⟩) hS hcA2 hPr (lw_ap_r hdis) (fun H locs hPc hPr hS => ?_)
  refine lv_aload_n hx hb dL_law_643 rfl (lv_at hl 1 rfl) ?_
  refine lc_l (jv_runG hx hb hml hown hts hK hN hl.1 (n := 0) (As := []) (rest := [.long (v)]) (c_rX12_whole l hapr τ (v, τ2) e2) hPr (ci := 12) (q0 := 0) rfl rfl rfl kw_1088 kw_1085 kw_1086 kw_1087 kw_64 ⟨rfl, rfl⟩ (by decide +kernel) rfl ⟨(Nat.le_of_ble_eq_true rfl), (Nat.le_of_ble_eq_true rfl)⟩ rfl (Nat.le_of_ble_eq_true rfl) dL_law_644 ⟨(Nat.le_of_ble_eq_true rfl), (Nat.le_of_ble_eq_true rfl)⟩) hS hrA2 hPc (lw_ap_c hdis) (fun H locs hPr hPc hS => ?_)
  exact W.lcmp hx hb dL_law_647 (lv_if_eq (tgt := 746) hx hb dL_law_648 (by decide) (fun _ => next σ2 τ2 (RR_B hR2 (by omega)) _ _ _ hPc hPr hS hl) (fun c9 => absurd ((lg_cmp_eq v v).mpr rfl) c9))

set_option maxHeartbeats 4000000 in
set_option maxRecDepth 100000 in
theorem law_14 {p : Program} {l : Launch} {e : Env} {s : State} {m : MethodId} {below : List Frame} {meth : Method} {c : Code} {b L : Nat} {xs : Nat → Int32} {dC : Nat → ClassId} {dI : Nat → Nat → Nat} {kA : Nat → ClassId} {adc adr : Nat → Nat} (C : lw_C p s m meth c dC dI kA adc adr b L xs) {i7 B : Nat} (hB : B < 800000) (h7 : i7 + 7 ≤ L) (hL : L ≤ 3584) (next : lw_N 746 p l e s m below meth c b dC dI kA adc adr i7 (B + 50)) : lw_N 653 p l e s m below meth c b dC dI kA adc adr i7 B := by
  intro σ τ hR H locs ls hPc hPr hS hl
  obtain ⟨hx, hb, hml, hown, hts, hK, hN, hX, hbl, hapc, hapr, hdis, hcA, hrA⟩ := C
  have hbA : ¬ (fun q : Nat => s.heap.size ≤ q) b := Nat.not_le.mpr hbl
  have hcA2 : ∀ q, jw_A 57 adc q → (fun q : Nat => s.heap.size ≤ q) q := fun q h => by obtain ⟨k, hk, rfl⟩ := h; exact hcA k hk
  have hrA2 : ∀ q, jw_A 32 adr q → (fun q : Nat => s.heap.size ≤ q) q := fun q h => by obtain ⟨k, hk, rfl⟩ := h; exact hrA k hk
  refine lv_aload_n hx hb dL_law_653 rfl (lv_at hl 2 rfl) ?_
  refine lv_aload_n hx hb dL_law_654 rfl (lv_at hl 3 rfl) ?_
  refine lv_iload_n hx hb dL_law_655 rfl (lv_at hl 0 rfl) ?_
  refine lv_iconst (v := 1) hx hb dL_law_656 (by decide) ?_
  refine lv_iadd hx hb dL_law_657 ?_
  refine va_sld hx hb hX hbl hbA hS (lw_in h7 hL 1 (by decide)) dL_law_658 ?_
  obtain ⟨v, σ2, τ2, e1, e2, hR2⟩ := q_awake hR (xs (nI i7 + 1).toNatClampNeg)
  refine lc_i (jv_runG hx hb hml hown hts hK hN hl.1 (n := 1) (As := [.int (xs (nI i7 + 1).toNatClampNeg)]) (rest := []) (c_cX11_awake l hapc σ (xs (nI i7 + 1).toNatClampNeg) (v, σ2) e1) hPc (ci := 11) (q0 := 0) rfl rfl rfl kw_731 kw_728 kw_729 kw_730 kw_52 ⟨rfl, rfl⟩ (by decide +kernel) rfl ⟨(Nat.le_of_ble_eq_true rfl), (Nat.le_of_ble_eq_true rfl)⟩ rfl (Nat.le_of_ble_eq_true rfl) dL_law_659 ⟨(Nat.le_of_ble_eq_true rfl), (Nat.le_of_ble_eq_true rfl)⟩) hS hcA2 hPr (lw_ap_r hdis) (fun H locs hPc hPr hS => ?_)
  refine lv_aload_n hx hb dL_law_662 rfl (lv_at hl 1 rfl) ?_
  refine lv_aload_n hx hb dL_law_663 rfl (lv_at hl 3 rfl) ?_
  refine lv_iload_n hx hb dL_law_664 rfl (lv_at hl 0 rfl) ?_
  refine lv_iconst (v := 1) hx hb dL_law_665 (by decide) ?_
  refine lv_iadd hx hb dL_law_666 ?_
  refine va_sld hx hb hX hbl hbA hS (lw_in h7 hL 1 (by decide)) dL_law_667 ?_
  refine lc_i (jv_runG hx hb hml hown hts hK hN hl.1 (n := 1) (As := [.int (xs (nI i7 + 1).toNatClampNeg)]) (rest := [.int (v)]) (c_rX12_awake l hapr τ (xs (nI i7 + 1).toNatClampNeg) (v, τ2) e2) hPr (ci := 12) (q0 := 0) rfl rfl rfl kw_1092 kw_1089 kw_1090 kw_1091 kw_64 ⟨rfl, rfl⟩ (by decide +kernel) rfl ⟨(Nat.le_of_ble_eq_true rfl), (Nat.le_of_ble_eq_true rfl)⟩ rfl (Nat.le_of_ble_eq_true rfl) dL_law_668 ⟨(Nat.le_of_ble_eq_true rfl), (Nat.le_of_ble_eq_true rfl)⟩) hS hrA2 hPc (lw_ap_c hdis) (fun H locs hPr hPc hS => ?_)
  exact lv_icmp_eq (tgt := 746) hx hb dL_law_671 (by decide) (fun _ => next σ2 τ2 (RR_B hR2 (by omega)) _ _ _ hPc hPr hS hl) (fun c9 => absurd rfl c9)

set_option maxHeartbeats 4000000 in
set_option maxRecDepth 100000 in
theorem law_15 {p : Program} {l : Launch} {e : Env} {s : State} {m : MethodId} {below : List Frame} {meth : Method} {c : Code} {b L : Nat} {xs : Nat → Int32} {dC : Nat → ClassId} {dI : Nat → Nat → Nat} {kA : Nat → ClassId} {adc adr : Nat → Nat} (C : lw_C p s m meth c dC dI kA adc adr b L xs) {i7 B : Nat} (hB : B < 800000) (h7 : i7 + 7 ≤ L) (hL : L ≤ 3584) (next : lw_N 746 p l e s m below meth c b dC dI kA adc adr i7 (B + 50)) : lw_N 676 p l e s m below meth c b dC dI kA adc adr i7 B := by
  intro σ τ hR H locs ls hPc hPr hS hl
  obtain ⟨hx, hb, hml, hown, hts, hK, hN, hX, hbl, hapc, hapr, hdis, hcA, hrA⟩ := C
  have hbA : ¬ (fun q : Nat => s.heap.size ≤ q) b := Nat.not_le.mpr hbl
  have hcA2 : ∀ q, jw_A 57 adc q → (fun q : Nat => s.heap.size ≤ q) q := fun q h => by obtain ⟨k, hk, rfl⟩ := h; exact hcA k hk
  have hrA2 : ∀ q, jw_A 32 adr q → (fun q : Nat => s.heap.size ≤ q) q := fun q h => by obtain ⟨k, hk, rfl⟩ := h; exact hrA k hk
  refine lv_aload_n hx hb dL_law_676 rfl (lv_at hl 2 rfl) ?_
  refine lv_aload_n hx hb dL_law_677 rfl (lv_at hl 3 rfl) ?_
  refine lv_iload_n hx hb dL_law_678 rfl (lv_at hl 0 rfl) ?_
  refine lv_iconst (v := 1) hx hb dL_law_679 (by decide) ?_
  refine lv_iadd hx hb dL_law_680 ?_
  refine va_sld hx hb hX hbl hbA hS (lw_in h7 hL 1 (by decide)) dL_law_681 ?_
  obtain ⟨v, σ2, τ2, e1, e2, hR2⟩ := q_along hR (xs (nI i7 + 1).toNatClampNeg)
  refine lc_i (jv_runG hx hb hml hown hts hK hN hl.1 (n := 1) (As := [.int (xs (nI i7 + 1).toNatClampNeg)]) (rest := []) (c_cX11_along l hapc σ (xs (nI i7 + 1).toNatClampNeg) (v, σ2) e1) hPc (ci := 11) (q0 := 0) rfl rfl rfl kw_735 kw_732 kw_733 kw_734 kw_52 ⟨rfl, rfl⟩ (by decide +kernel) rfl ⟨(Nat.le_of_ble_eq_true rfl), (Nat.le_of_ble_eq_true rfl)⟩ rfl (Nat.le_of_ble_eq_true rfl) dL_law_682 ⟨(Nat.le_of_ble_eq_true rfl), (Nat.le_of_ble_eq_true rfl)⟩) hS hcA2 hPr (lw_ap_r hdis) (fun H locs hPc hPr hS => ?_)
  refine lv_aload_n hx hb dL_law_685 rfl (lv_at hl 1 rfl) ?_
  refine lv_aload_n hx hb dL_law_686 rfl (lv_at hl 3 rfl) ?_
  refine lv_iload_n hx hb dL_law_687 rfl (lv_at hl 0 rfl) ?_
  refine lv_iconst (v := 1) hx hb dL_law_688 (by decide) ?_
  refine lv_iadd hx hb dL_law_689 ?_
  refine va_sld hx hb hX hbl hbA hS (lw_in h7 hL 1 (by decide)) dL_law_690 ?_
  refine lc_i (jv_runG hx hb hml hown hts hK hN hl.1 (n := 1) (As := [.int (xs (nI i7 + 1).toNatClampNeg)]) (rest := [.int (v)]) (c_rX12_along l hapr τ (xs (nI i7 + 1).toNatClampNeg) (v, τ2) e2) hPr (ci := 12) (q0 := 0) rfl rfl rfl kw_1096 kw_1093 kw_1094 kw_1095 kw_64 ⟨rfl, rfl⟩ (by decide +kernel) rfl ⟨(Nat.le_of_ble_eq_true rfl), (Nat.le_of_ble_eq_true rfl)⟩ rfl (Nat.le_of_ble_eq_true rfl) dL_law_691 ⟨(Nat.le_of_ble_eq_true rfl), (Nat.le_of_ble_eq_true rfl)⟩) hS hrA2 hPc (lw_ap_c hdis) (fun H locs hPr hPc hS => ?_)
  exact lv_icmp_eq (tgt := 746) hx hb dL_law_694 (by decide) (fun _ => next σ2 τ2 (RR_B hR2 (by omega)) _ _ _ hPc hPr hS hl) (fun c9 => absurd rfl c9)

set_option maxHeartbeats 4000000 in
set_option maxRecDepth 100000 in
theorem law_16 {p : Program} {l : Launch} {e : Env} {s : State} {m : MethodId} {below : List Frame} {meth : Method} {c : Code} {b L : Nat} {xs : Nat → Int32} {dC : Nat → ClassId} {dI : Nat → Nat → Nat} {kA : Nat → ClassId} {adc adr : Nat → Nat} (C : lw_C p s m meth c dC dI kA adc adr b L xs) {i7 B : Nat} (hB : B < 800000) (h7 : i7 + 7 ≤ L) (hL : L ≤ 3584) (next : lw_N 746 p l e s m below meth c b dC dI kA adc adr i7 (B + 50)) : lw_N 699 p l e s m below meth c b dC dI kA adc adr i7 B := by
  intro σ τ hR H locs ls hPc hPr hS hl
  obtain ⟨hx, hb, hml, hown, hts, hK, hN, hX, hbl, hapc, hapr, hdis, hcA, hrA⟩ := C
  have hbA : ¬ (fun q : Nat => s.heap.size ≤ q) b := Nat.not_le.mpr hbl
  have hcA2 : ∀ q, jw_A 57 adc q → (fun q : Nat => s.heap.size ≤ q) q := fun q h => by obtain ⟨k, hk, rfl⟩ := h; exact hcA k hk
  have hrA2 : ∀ q, jw_A 32 adr q → (fun q : Nat => s.heap.size ≤ q) q := fun q h => by obtain ⟨k, hk, rfl⟩ := h; exact hrA k hk
  refine lv_aload_n hx hb dL_law_699 rfl (lv_at hl 2 rfl) ?_
  refine lv_aload_n hx hb dL_law_700 rfl (lv_at hl 3 rfl) ?_
  refine lv_iload_n hx hb dL_law_701 rfl (lv_at hl 0 rfl) ?_
  refine lv_iconst (v := 1) hx hb dL_law_702 (by decide) ?_
  refine lv_iadd hx hb dL_law_703 ?_
  refine va_sld hx hb hX hbl hbA hS (lw_in h7 hL 1 (by decide)) dL_law_704 ?_
  obtain ⟨v, σ2, τ2, e1, e2, hR2⟩ := q_message hR (xs (nI i7 + 1).toNatClampNeg)
  refine lc_l (jv_runG hx hb hml hown hts hK hN hl.1 (n := 1) (As := [.int (xs (nI i7 + 1).toNatClampNeg)]) (rest := []) (c_cX11_message l hapc σ (xs (nI i7 + 1).toNatClampNeg) (v, σ2) e1) hPc (ci := 11) (q0 := 0) rfl rfl rfl kw_743 kw_740 kw_741 kw_742 kw_52 ⟨rfl, rfl⟩ (by decide +kernel) rfl ⟨(Nat.le_of_ble_eq_true rfl), (Nat.le_of_ble_eq_true rfl)⟩ rfl (Nat.le_of_ble_eq_true rfl) dL_law_705 ⟨(Nat.le_of_ble_eq_true rfl), (Nat.le_of_ble_eq_true rfl)⟩) hS hcA2 hPr (lw_ap_r hdis) (fun H locs hPc hPr hS => ?_)
  refine lv_aload_n hx hb dL_law_708 rfl (lv_at hl 1 rfl) ?_
  refine lv_aload_n hx hb dL_law_709 rfl (lv_at hl 3 rfl) ?_
  refine lv_iload_n hx hb dL_law_710 rfl (lv_at hl 0 rfl) ?_
  refine lv_iconst (v := 1) hx hb dL_law_711 (by decide) ?_
  refine lv_iadd hx hb dL_law_712 ?_
  refine va_sld hx hb hX hbl hbA hS (lw_in h7 hL 1 (by decide)) dL_law_713 ?_
  refine lc_l (jv_runG hx hb hml hown hts hK hN hl.1 (n := 1) (As := [.int (xs (nI i7 + 1).toNatClampNeg)]) (rest := [.long (v)]) (c_rX12_message l hapr τ (xs (nI i7 + 1).toNatClampNeg) (v, τ2) e2) hPr (ci := 12) (q0 := 0) rfl rfl rfl kw_1100 kw_1097 kw_1098 kw_1099 kw_64 ⟨rfl, rfl⟩ (by decide +kernel) rfl ⟨(Nat.le_of_ble_eq_true rfl), (Nat.le_of_ble_eq_true rfl)⟩ rfl (Nat.le_of_ble_eq_true rfl) dL_law_714 ⟨(Nat.le_of_ble_eq_true rfl), (Nat.le_of_ble_eq_true rfl)⟩) hS hrA2 hPc (lw_ap_c hdis) (fun H locs hPr hPc hS => ?_)
  exact W.lcmp hx hb dL_law_717 (lv_if_eq (tgt := 746) hx hb dL_law_718 (by decide) (fun _ => next σ2 τ2 (RR_B hR2 (by omega)) _ _ _ hPc hPr hS hl) (fun c9 => absurd ((lg_cmp_eq v v).mpr rfl) c9))

set_option maxHeartbeats 4000000 in
set_option maxRecDepth 100000 in
theorem law_17 {p : Program} {l : Launch} {e : Env} {s : State} {m : MethodId} {below : List Frame} {meth : Method} {c : Code} {b L : Nat} {xs : Nat → Int32} {dC : Nat → ClassId} {dI : Nat → Nat → Nat} {kA : Nat → ClassId} {adc adr : Nat → Nat} (C : lw_C p s m meth c dC dI kA adc adr b L xs) {i7 B : Nat} (hB : B < 800000) (h7 : i7 + 7 ≤ L) (hL : L ≤ 3584) (next : lw_N 746 p l e s m below meth c b dC dI kA adc adr i7 (B + 50)) : lw_N 723 p l e s m below meth c b dC dI kA adc adr i7 B := by
  intro σ τ hR H locs ls hPc hPr hS hl
  obtain ⟨hx, hb, hml, hown, hts, hK, hN, hX, hbl, hapc, hapr, hdis, hcA, hrA⟩ := C
  have hbA : ¬ (fun q : Nat => s.heap.size ≤ q) b := Nat.not_le.mpr hbl
  have hcA2 : ∀ q, jw_A 57 adc q → (fun q : Nat => s.heap.size ≤ q) q := fun q h => by obtain ⟨k, hk, rfl⟩ := h; exact hcA k hk
  have hrA2 : ∀ q, jw_A 32 adr q → (fun q : Nat => s.heap.size ≤ q) q := fun q h => by obtain ⟨k, hk, rfl⟩ := h; exact hrA k hk
  refine lv_aload_n hx hb dL_law_723 rfl (lv_at hl 2 rfl) ?_
  refine lv_aload_n hx hb dL_law_724 rfl (lv_at hl 3 rfl) ?_
  refine lv_iload_n hx hb dL_law_725 rfl (lv_at hl 0 rfl) ?_
  refine lv_iconst (v := 1) hx hb dL_law_726 (by decide) ?_
  refine lv_iadd hx hb dL_law_727 ?_
  refine va_sld hx hb hX hbl hbA hS (lw_in h7 hL 1 (by decide)) dL_law_728 ?_
  obtain ⟨v, σ2, τ2, e1, e2, hR2⟩ := q_count hR (xs (nI i7 + 1).toNatClampNeg)
  refine lc_i (jv_runG hx hb hml hown hts hK hN hl.1 (n := 1) (As := [.int (xs (nI i7 + 1).toNatClampNeg)]) (rest := []) (c_cX11_count l hapc σ (xs (nI i7 + 1).toNatClampNeg) (v, σ2) e1) hPc (ci := 11) (q0 := 0) rfl rfl rfl kw_747 kw_744 kw_745 kw_746 kw_52 ⟨rfl, rfl⟩ (by decide +kernel) rfl ⟨(Nat.le_of_ble_eq_true rfl), (Nat.le_of_ble_eq_true rfl)⟩ rfl (Nat.le_of_ble_eq_true rfl) dL_law_729 ⟨(Nat.le_of_ble_eq_true rfl), (Nat.le_of_ble_eq_true rfl)⟩) hS hcA2 hPr (lw_ap_r hdis) (fun H locs hPc hPr hS => ?_)
  refine lv_aload_n hx hb dL_law_732 rfl (lv_at hl 1 rfl) ?_
  refine lv_aload_n hx hb dL_law_733 rfl (lv_at hl 3 rfl) ?_
  refine lv_iload_n hx hb dL_law_734 rfl (lv_at hl 0 rfl) ?_
  refine lv_iconst (v := 1) hx hb dL_law_735 (by decide) ?_
  refine lv_iadd hx hb dL_law_736 ?_
  refine va_sld hx hb hX hbl hbA hS (lw_in h7 hL 1 (by decide)) dL_law_737 ?_
  refine lc_i (jv_runG hx hb hml hown hts hK hN hl.1 (n := 1) (As := [.int (xs (nI i7 + 1).toNatClampNeg)]) (rest := [.int (v)]) (c_rX12_count l hapr τ (xs (nI i7 + 1).toNatClampNeg) (v, τ2) e2) hPr (ci := 12) (q0 := 0) rfl rfl rfl kw_1104 kw_1101 kw_1102 kw_1103 kw_64 ⟨rfl, rfl⟩ (by decide +kernel) rfl ⟨(Nat.le_of_ble_eq_true rfl), (Nat.le_of_ble_eq_true rfl)⟩ rfl (Nat.le_of_ble_eq_true rfl) dL_law_738 ⟨(Nat.le_of_ble_eq_true rfl), (Nat.le_of_ble_eq_true rfl)⟩) hS hrA2 hPc (lw_ap_c hdis) (fun H locs hPr hPc hS => ?_)
  exact lv_icmp_eq (tgt := 746) hx hb dL_law_741 (by decide) (fun _ => next σ2 τ2 (RR_B hR2 (by omega)) _ _ _ hPc hPr hS hl) (fun c9 => absurd rfl c9)
