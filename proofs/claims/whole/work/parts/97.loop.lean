/-! the law's loop -/
theorem lw_cond {L k : Nat} (hL : L ≤ 3584) (hk : k ≤ 3584) : Int32.ofNat L - 7 < nI k ↔ L < k + 7 := by
  rw [show Int32.ofNat L = nI L from rfl, show (7 : Int32) = nI 7 from rfl, Int32.lt_iff_toInt_lt, pk_sub_toInt (by omega) (by decide), nI_toInt (by omega)]
  omega
set_option maxHeartbeats 4000000 in
set_option maxRecDepth 100000 in
theorem law_loop {p : Program} {l : Launch} {e : Env} {s : State} {m : MethodId} {below : List Frame} {meth : Method} {c : Code} {b L : Nat} {xs : Nat → Int32} {dC : Nat → ClassId} {dI : Nat → Nat → Nat} {kA : Nat → ClassId} {adc adr : Nat → Nat} (hL : L ≤ 3584) (C : lw_C p s m meth c dC dI kA adc adr b L xs) (hr : meth.sig.returnType = ret) (hlocks : meth.locks = false) :
    ∀ (n k : Nat), 7 * k ≤ L → L < 7 * k + 7 * n → lw_N 18 p l e s m below meth c b dC dI kA adc adr (7 * k) (50 * k)
  | 0, k, h1, h2 => by omega
  | n + 1, k, h1, h2 => by
    intro σ τ hR H locs ls hPc hPr hS hl
    obtain ⟨hx, hb, hml, hown, hts, hK, hN, hX, hbl, hapc, hapr, hdis, hcA, hrA⟩ := id C
    have hbA : ¬ (fun q : Nat => s.heap.size ≤ q) b := Nat.not_le.mpr hbl
    refine lv_iload_n hx hb dL_law_18 rfl (lv_at hl 0 rfl) ?_
    refine lv_aload_n hx hb dL_law_19 rfl (lv_at hl 3 rfl) ?_
    refine va_slen hx hb hX hbl hbA hS dL_law_20 ?_
    refine lv_bipush (v := 7) hx hb dL_law_21 (by decide) ?_
    refine lv_isub hx hb dL_law_23 ?_
    refine lv_icmp_gt (tgt := 752) hx hb dL_law_24 (by decide) (fun c0 => ?_) (fun c0 => ?_)
    · refine lv_iconst (v := 1) hx hb dL_law_752 (by decide) ?_
      exact va_forget hS.2.2 (lw_ret hx hb hr hlocks dL_law_753)
    · have h7 : 7 * k + 7 ≤ L := by
        rcases Nat.lt_or_ge L (7 * k + 7) with q | q
        · exact absurd ((lw_cond hL (by omega)).mpr q) c0
        · exact q
      have next : lw_N 746 p l e s m below meth c b dC dI kA adc adr (7 * k) (50 * k + 50) := by
        intro σ τ hR H locs ls hPc hPr hS hl
        refine lv_iinc (v := nI (7 * (k + 1))) (lv' := [(3, .int (nI (7 * (k + 1)))), (2, .ref (adr 0)), (1, .ref (adc 0)), (0, .ref b)]) hx hb dL_law_746 hl (k := 0) rfl (by
          show nI (7 * k) + nI 7 = _
          rw [nI_add, show 7 * k + 7 = 7 * (k + 1) by omega]) (by decide) rfl (fun ls hl => ?_)
        refine lv_goto (tgt := 18) hx hb dL_law_749 (by decide) ?_
        exact law_loop hL C hr hlocks n (k + 1) (by omega) (by omega) σ τ (by rw [show 50 * (k + 1) = 50 * k + 50 by omega]; exact hR) H locs ls hPc hPr hS hl
      have hB : 50 * k < 800000 := by omega
      refine lv_aload_n hx hb dL_law_27 rfl (lv_at hl 3 rfl) ?_
      refine lv_iload_n hx hb dL_law_28 rfl (lv_at hl 0 rfl) ?_
      refine va_sld hx hb hX hbl hbA hS (vp_in_nI (by omega) (by omega)) dL_law_29 ?_
      refine lv_bipush (v := 31) hx hb dL_law_30 (by decide) ?_
      refine lv_iand hx hb dL_law_32 ?_
      obtain ⟨j, hj, ej⟩ := pk_andE (xs (nI (7 * k)).toNatClampNeg) (m := 31) 5 rfl
      rw [ej]
      rcases (show j = 0 ∨ j = 1 ∨ j = 2 ∨ j = 3 ∨ j = 4 ∨ j = 5 ∨ j = 6 ∨ j = 7 ∨ j = 8 ∨ j = 9 ∨ j = 10 ∨ j = 11 ∨ j = 12 ∨ j = 13 ∨ j = 14 ∨ j = 15 ∨ j = 16 ∨ j = 17 ∨ 18 ≤ j by omega) with rfl | rfl | rfl | rfl | rfl | rfl | rfl | rfl | rfl | rfl | rfl | rfl | rfl | rfl | rfl | rfl | rfl | rfl | h18
      · exact lv_tableIn (tgt := 120) hx hb dL_law_33 (by decide) (by decide) rfl (by decide) (law_0 C hB h7 hL next σ τ hR H locs ls hPc hPr hS hl)
      · exact lv_tableIn (tgt := 215) hx hb dL_law_33 (by decide) (by decide) rfl (by decide) (law_1 C hB h7 hL next σ τ hR H locs ls hPc hPr hS hl)
      · exact lv_tableIn (tgt := 228) hx hb dL_law_33 (by decide) (by decide) rfl (by decide) (law_2 C hB h7 hL next σ τ hR H locs ls hPc hPr hS hl)
      · exact lv_tableIn (tgt := 301) hx hb dL_law_33 (by decide) (by decide) rfl (by decide) (law_3 C hB h7 hL next σ τ hR H locs ls hPc hPr hS hl)
      · exact lv_tableIn (tgt := 374) hx hb dL_law_33 (by decide) (by decide) rfl (by decide) (law_4 C hB h7 hL next σ τ hR H locs ls hPc hPr hS hl)
      · exact lv_tableIn (tgt := 423) hx hb dL_law_33 (by decide) (by decide) rfl (by decide) (law_5 C hB h7 hL next σ τ hR H locs ls hPc hPr hS hl)
      · exact lv_tableIn (tgt := 456) hx hb dL_law_33 (by decide) (by decide) rfl (by decide) (law_6 C hB h7 hL next σ τ hR H locs ls hPc hPr hS hl)
      · exact lv_tableIn (tgt := 479) hx hb dL_law_33 (by decide) (by decide) rfl (by decide) (law_7 C hB h7 hL next σ τ hR H locs ls hPc hPr hS hl)
      · exact lv_tableIn (tgt := 512) hx hb dL_law_33 (by decide) (by decide) rfl (by decide) (law_8 C hB h7 hL next σ τ hR H locs ls hPc hPr hS hl)
      · exact lv_tableIn (tgt := 525) hx hb dL_law_33 (by decide) (by decide) rfl (by decide) (law_9 C hB h7 hL next σ τ hR H locs ls hPc hPr hS hl)
      · exact lv_tableIn (tgt := 548) hx hb dL_law_33 (by decide) (by decide) rfl (by decide) (law_10 C hB h7 hL next σ τ hR H locs ls hPc hPr hS hl)
      · exact lv_tableIn (tgt := 592) hx hb dL_law_33 (by decide) (by decide) rfl (by decide) (law_11 C hB h7 hL next σ τ hR H locs ls hPc hPr hS hl)
      · exact lv_tableIn (tgt := 605) hx hb dL_law_33 (by decide) (by decide) rfl (by decide) (law_12 C hB h7 hL next σ τ hR H locs ls hPc hPr hS hl)
      · exact lv_tableIn (tgt := 639) hx hb dL_law_33 (by decide) (by decide) rfl (by decide) (law_13 C hB h7 hL next σ τ hR H locs ls hPc hPr hS hl)
      · exact lv_tableIn (tgt := 653) hx hb dL_law_33 (by decide) (by decide) rfl (by decide) (law_14 C hB h7 hL next σ τ hR H locs ls hPc hPr hS hl)
      · exact lv_tableIn (tgt := 676) hx hb dL_law_33 (by decide) (by decide) rfl (by decide) (law_15 C hB h7 hL next σ τ hR H locs ls hPc hPr hS hl)
      · exact lv_tableIn (tgt := 699) hx hb dL_law_33 (by decide) (by decide) rfl (by decide) (law_16 C hB h7 hL next σ τ hR H locs ls hPc hPr hS hl)
      · exact lv_tableIn (tgt := 723) hx hb dL_law_33 (by decide) (by decide) rfl (by decide) (law_17 C hB h7 hL next σ τ hR H locs ls hPc hPr hS hl)
      · exact lv_tableOut (tgt := 746) hx hb dL_law_33 (Or.inr (by rw [nI_toInt (by omega)]; omega)) (by decide) (next σ τ (RR_B hR (by omega)) H locs ls hPc hPr hS hl)
