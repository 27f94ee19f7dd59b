/-! the messages of the round are told -/
theorem c_tell {σ : RS} {K : Nat} (hK : K ≤ 40) (h18 : rg_I σ 18 = nI K) (hs : ∀ i, i < K → ∃ x, x < 40 ∧ rg_A σ 10 i = nI x) : ∃ σ', s_cX7_tellMessages σ = some σ' ∧ cF [13] [] [9] [3] σ σ' ∧ rg_I σ' 13 = nI K ∧ ∀ i, i < K → rg_A σ' 9 i = rg_A σ 10 i ∧ rg_B σ' 3 i = rg_B σ 4 (rg_A σ 10 i).toNatClampNeg := by
  obtain ⟨σ', ⟨g1, g2, g3⟩, g4⟩ := lp_1 (z := fun _ _ => none) (F := s_cX7_tellMessages_b9) (N := K) (I := fun i s => cF [13] [] [9] [3] σ s ∧ rg_I s 13 = nI i ∧ ∀ j, j < i → rg_A s 9 j = rg_A σ 10 j ∧ rg_B s 3 j = rg_B σ 4 (rg_A σ 10 j).toNatClampNeg) (ex := fun s => some s) (fun f s i => f s i)
    (fun k i s hi hI => by
      obtain ⟨h1, h2, h3⟩ := hI
      obtain ⟨x, hx, ex⟩ := hs i hi
      have e10 : rg_A s 10 = rg_A σ 10 := h1.2.2.1 10 (by decide)
      have e4 : rg_B s 4 = rg_B σ 4 := h1.2.2.2 4 (by decide)
      refine ⟨rs_I (rs_B (rs_A s 9 (upd (rg_A s 9) i (nI x))) 3 (vp_updL (rg_B s 3) i (rg_B σ 4 x))) 13 (nI (i + 1)), ?_, cF_tr h1 (cF_tr (cF_A _ _ _ (by decide)) (cF_tr (cF_B _ _ _ (by decide)) (cF_I _ _ _ (by decide)))), rfl, fun j hj => ?_⟩
      · show s_cX7_tellMessages_b9 k s (nI i) = _
        rw [s_cX7_tellMessages_b9, h1.1 18 (by decide), h18, if_neg (fun q => by have := (nI_leI (by omega) (by omega)).mp q; omega), ld_n (show i < 40 by omega) (by decide), ld_n (show i < 40 by omega) (by decide), e10, ex, ld_n hx (by decide), e4]
        unfold s_cX9_add
        rw [h2, if_pos (show nI i < 200 from (nI_ltI (b := 200) (by omega) (by decide)).mpr (by omega)), st_n (show i < 200 by omega) (by decide), nI_clamp (show i < 2 ^ 31 by omega), show rg_I (rs_A s 9 (upd (rg_A s 9) i (nI x))) 13 = nI i from h2, st_n (show i < 200 by omega) (by decide), nI_clamp (show i < 2 ^ 31 by omega), kn_v, show rg_I (rs_B (rs_A s 9 (upd (rg_A s 9) i (nI x))) 3 (vp_updL (rg_B (rs_A s 9 (upd (rg_A s 9) i (nI x))) 3) i (rg_B σ 4 x))) 13 = nI i from h2, nI_1, kn_u_some, kn_v]
        rfl
      · by_cases z : j = i
        · subst z
          rw [ex, nI_clamp (show x < 2 ^ 31 by omega)]
          exact ⟨pk_us, pk_uLs⟩
        · obtain ⟨p1, p2⟩ := h3 j (by omega)
          refine ⟨?_, ?_⟩
          · show upd (rg_A s 9) i (nI x) j = _
            rw [pk_un z]; exact p1
          · show vp_updL (rg_B s 3) i (rg_B σ 4 x) j = _
            rw [pk_uLn z]; exact p2)
    (fun k s hI => by
      show s_cX7_tellMessages_b9 k s (nI K) = _
      rw [s_cX7_tellMessages_b9, hI.1.1 18 (by decide), h18, if_pos ((nI_leI (by omega) (by omega)).mpr (Nat.le_refl _))])
    FU 0 (rs_I σ 13 0) (Nat.zero_le _) (by unfold FU; omega) ⟨cF_I _ _ _ (by decide), rfl, fun j h => absurd h (Nat.not_lt_zero _)⟩
  rw [nI_0] at g4
  refine ⟨σ', ?_, g1, g2, g3⟩
  unfold s_cX7_tellMessages f_cX7_tellMessages_b9
  exact g4
theorem r_tell {τ : RS} {K : Nat} (hK : K ≤ 40) (h15 : rg_I τ 15 = nI K) (hs : ∀ i, i < K → ∃ x, x < 40 ∧ rg_A τ 15 i = nI x) : ∃ τ', f_rX12_round_b295 τ 0 = some (1, τ') ∧ cF [] [] [11] [5] τ τ' ∧ ∀ i, i < K → rg_A τ' 11 i = rg_A τ 15 i ∧ rg_B τ' 5 i = rg_B τ 7 (rg_A τ 15 i).toNatClampNeg := by
  obtain ⟨τ', ⟨g1, g3⟩, g4⟩ := lp_1 (z := fun _ _ => none) (F := s_rX12_round_b295) (N := K) (I := fun i s => cF [] [] [11] [5] τ s ∧ ∀ j, j < i → rg_A s 11 j = rg_A τ 15 j ∧ rg_B s 5 j = rg_B τ 7 (rg_A τ 15 j).toNatClampNeg) (ex := fun s => some (1, s)) (fun f s i => f s i)
    (fun k i s hi hI => by
      obtain ⟨h1, h3⟩ := hI
      obtain ⟨x, hx, ex⟩ := hs i hi
      have e15 : rg_A s 15 = rg_A τ 15 := h1.2.2.1 15 (by decide)
      have e7 : rg_B s 7 = rg_B τ 7 := h1.2.2.2 7 (by decide)
      refine ⟨rs_B (rs_A s 11 (upd (rg_A s 11) i (nI x))) 5 (vp_updL (rg_B s 5) i (rg_B τ 7 x)), ?_, cF_tr h1 (cF_tr (cF_A _ _ _ (by decide)) (cF_B _ _ _ (by decide))), fun j hj => ?_⟩
      · show s_rX12_round_b295 k s (nI i) = _
        rw [s_rX12_round_b295, h1.1 15 (by decide), h15, if_neg (fun q => by have := (nI_leI (by omega) (by omega)).mp q; omega), ld_n (show i < 40 by omega) (by decide), e15, ex, st_n (show i < 200 by omega) (by decide), ld_n (show i < 40 by omega) (by decide), show rg_A (rs_A s 11 (upd (rg_A s 11) (nI i).toNatClampNeg (nI x))) 15 = rg_A s 15 from rfl, e15, ex, ld_n hx (by decide), st_n (show i < 200 by omega) (by decide), kn_v, nI_1, nI_clamp (show i < 2 ^ 31 by omega), show rg_B (rs_A s 11 (upd (rg_A s 11) i (nI x))) 7 = rg_B s 7 from rfl, e7]
        rfl
      · by_cases z : j = i
        · subst z
          rw [ex, nI_clamp (show x < 2 ^ 31 by omega)]
          exact ⟨pk_us, pk_uLs⟩
        · obtain ⟨p1, p2⟩ := h3 j (by omega)
          refine ⟨?_, ?_⟩
          · show upd (rg_A s 11) i (nI x) j = _
            rw [pk_un z]; exact p1
          · show vp_updL (rg_B s 5) i (rg_B τ 7 x) j = _
            rw [pk_uLn z]; exact p2)
    (fun k s hI => by
      show s_rX12_round_b295 k s (nI K) = _
      rw [s_rX12_round_b295, hI.1.1 15 (by decide), h15, if_pos ((nI_leI (by omega) (by omega)).mpr (Nat.le_refl _))])
    FU 0 τ (Nat.zero_le _) (by unfold FU; omega) ⟨cF_rf _ _ _ _ _, fun j h => absurd h (Nat.not_lt_zero _)⟩
  rw [nI_0] at g4
  exact ⟨τ', g4, g1, g3⟩
def TD (σ τ : RS) : Prop := ∃ D, D ≤ 200 ∧ rg_I σ 13 = nI D ∧ rg_I τ 8 = nI D ∧ ∀ i, i < D → rg_A τ 11 i = rg_A σ 9 i ∧ rg_B τ 5 i = rg_B σ 3 i
theorem TD_F {σ τ σ' τ' : RS} {LI LL LA LB MI ML MA MB : List Nat} (h : TD σ τ) (c : cF LI LL LA LB σ σ') (r : cF MI ML MA MB τ τ') (hc : (decide (13 ∉ LI ∧ 9 ∉ LA ∧ 3 ∉ LB)) = true) (hr : (decide (8 ∉ MI ∧ 11 ∉ MA ∧ 5 ∉ MB)) = true) : TD σ' τ' := by
  have q1 := of_decide_eq_true hc
  have q2 := of_decide_eq_true hr
  unfold TD at h ⊢
  rw [c.1 13 q1.1, c.2.2.1 9 q1.2.1, c.2.2.2 3 q1.2.2, r.1 8 q2.1, r.2.2.1 11 q2.2.1, r.2.2.2 5 q2.2.2]
  exact h
