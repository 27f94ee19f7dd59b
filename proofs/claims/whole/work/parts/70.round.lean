/-! a round -/
theorem c_begin1 (σ : RS) : s_cX1_begin σ = some (rs_I (rs_L (rs_I (rs_I σ 15 0) 16 0) 1 0) 14 0) := rfl
theorem c_begin7 (σ : RS) : ∃ σ', s_cX7_begin σ = some σ' ∧ cF [14, 15, 16, 18] [1] [11] [] σ σ' ∧ rg_I σ' 14 = 0 ∧ rg_I σ' 15 = nI 0 ∧ rg_I σ' 16 = 0 ∧ rg_I σ' 18 = nI 0 ∧ rg_L σ' 1 = 0 ∧ ∀ x, x < 40 → rg_A σ' 11 x = 0 := by
  have c0 : cF [14, 15, 16, 18] [1] [11] [] σ (rs_I (rs_I (rs_L (rs_I (rs_I σ 15 0) 16 0) 1 0) 14 0) 18 0) := cF_tr (cF_I _ _ _ (by decide)) (cF_tr (cF_I _ _ _ (by decide)) (cF_tr (cF_L _ _ _ (by decide)) (cF_tr (cF_I _ _ _ (by decide)) (cF_I _ _ _ (by decide)))))
  obtain ⟨σ', ⟨g1, g3⟩, g4⟩ := lp_1 (z := fun _ _ => none) (F := s_cX7_begin_b17) (N := 40) (I := fun i s => cF [] [] [11] [] (rs_I (rs_I (rs_L (rs_I (rs_I σ 15 0) 16 0) 1 0) 14 0) 18 0) s ∧ ∀ j, j < i → rg_A s 11 j = 0) (ex := fun s => some s) (fun f s i => f s i)
    (fun k i s hi hI => by
      obtain ⟨h1, h3⟩ := hI
      refine ⟨rs_A s 11 (upd (rg_A s 11) i 0), ?_, cF_tr h1 (cF_A _ _ _ (by decide)), fun j hj => ?_⟩
      · show s_cX7_begin_b17 k s (nI i) = _
        rw [s_cX7_begin_b17, if_neg (fun q => by have := (nI_leI (a := 40) (by decide) (by omega)).mp q; omega), st_n hi (by decide), kn_v, nI_1, nI_clamp (show i < 2 ^ 31 by omega)]
      · by_cases z : j = i
        · subst z; exact pk_us
        · show upd (rg_A s 11) i 0 j = 0
          rw [pk_un z]; exact h3 j (by omega))
    (fun k s hI => by
      show s_cX7_begin_b17 k s (nI 40) = _
      rw [s_cX7_begin_b17, if_pos (by decide)])
    FU 0 (rs_I (rs_I (rs_L (rs_I (rs_I σ 15 0) 16 0) 1 0) 14 0) 18 0) (Nat.zero_le _) (by decide) ⟨cF_rf _ _ _ _ _, fun j h => absurd h (Nat.not_lt_zero _)⟩
  rw [nI_0] at g4
  refine ⟨σ', ?_, cF_tr c0 (cF_mono g1 (by decide) (by decide) (by decide) (by decide)), ?_, ?_, ?_, ?_, ?_, g3⟩
  · unfold s_cX7_begin f_cX7_begin_b17
    rw [c_begin1, kn_u_some, kn_v]
    exact g4
  · exact g1.1 14 (by decide)
  · exact g1.1 15 (by decide)
  · exact g1.1 16 (by decide)
  · exact g1.1 18 (by decide)
  · exact g1.2.1 1 (by decide)
theorem r_clear {τ : RS} {E : Nat} {x : Int32} (hE : E ≤ 40) (he : rg_I τ 2 = nI E) : ∃ τ', f_rX12_sendAll_b7 τ x 0 = s_rX12_sendAll_b28 τ' x ∧ cF [] [] [14] [] τ τ' ∧ ∀ e, e < E → rg_A τ' 14 e = 0 := by
  obtain ⟨τ', ⟨g1, g3⟩, g4⟩ := lp_1 (z := fun _ _ _ => none) (F := s_rX12_sendAll_b7) (N := E) (I := fun i s => cF [] [] [14] [] τ s ∧ ∀ j, j < i → rg_A s 14 j = 0) (ex := fun s => s_rX12_sendAll_b28 s x) (fun f s i => f s x i)
    (fun k i s hi hI => by
      obtain ⟨h1, h3⟩ := hI
      refine ⟨rs_A s 14 (upd (rg_A s 14) i 0), ?_, cF_tr h1 (cF_A _ _ _ (by decide)), fun j hj => ?_⟩
      · show s_rX12_sendAll_b7 k s x (nI i) = _
        rw [s_rX12_sendAll_b7, h1.1 2 (by decide), he, if_neg (fun q => by have := (nI_leI (by omega) (by omega)).mp q; omega), st_n (show i < 40 by omega) (by decide), kn_v, nI_1, nI_clamp (show i < 2 ^ 31 by omega)]
      · by_cases z : j = i
        · subst z; exact pk_us
        · show upd (rg_A s 14) i 0 j = 0
          rw [pk_un z]; exact h3 j (by omega))
    (fun k s hI => by
      show s_rX12_sendAll_b7 k s x (nI E) = _
      rw [s_rX12_sendAll_b7, hI.1.1 2 (by decide), he, if_pos ((nI_leI (by omega) (by omega)).mpr (Nat.le_refl _))])
    FU 0 τ (Nat.zero_le _) (by unfold FU; omega) ⟨cF_rf _ _ _ _ _, fun j h => absurd h (Nat.not_lt_zero _)⟩
  rw [nI_0] at g4
  exact ⟨τ', g4, g1, g3⟩
/-- what the class changes in a round behind its mark; what the reference changes behind its remembering -/
abbrev cQ : RS → RS → Prop := cF [4, 6, 7, 8, 9, 10, 14, 15, 16, 17, 18] [0, 1] [4, 10, 11, 12, 13] [1, 4, 5]
abbrev rQ : RS → RS → Prop := cF [5, 9, 10, 11, 12, 13, 14, 15, 16] [1, 2, 3] [4, 8, 12, 13, 14, 15, 16] [1, 6, 7, 8]
theorem MK_F {σ τ σ' τ' : RS} {P ro : Nat} {LI LL LA LB MI ML MA MB : List Nat} (h : MK σ τ P ro) (hP : P < 7) (c : cF LI LL LA LB σ σ') (r : cF MI ML MA MB τ τ') (hc : (LI.all (fun i => decide (i < 21 ∨ 28 ≤ i)) && LA.all (fun i => decide (i < 15 ∨ 22 ≤ i)) && LB.all (fun i => decide (i < 9 ∨ 16 ≤ i))) = true) (hr : (decide (17 ∉ MA) && decide (9 ∉ MB)) = true) : MK σ' τ' P ro := by
  simp only [Bool.and_eq_true, List.all_eq_true, decide_eq_true_eq] at hc hr
  unfold MK at h ⊢
  rw [c.2.2.2 (9 + P) (fun z => by have := hc.2 _ z; omega), c.2.2.1 (15 + P) (fun z => by have := hc.1.2 _ z; omega), c.1 (21 + P) (fun z => by have := hc.1.1 _ z; omega), r.2.2.2 9 hr.2, r.2.2.1 17 hr.1]
  exact h
/-- the class goes back to its mark -/
theorem c_back {σ0 τ0 σ : RS} {P ro : Nat} (hP : P < 7) (hm : MK σ0 τ0 P ro) (h11 : rg_I σ0 11 = nI P) (hs : ∀ k, k < 36 → rg_B σ0 (9 + P) k = rg_B σ0 1 k) (hw : ∀ v, v < 12 → rg_A σ0 (15 + P) v = rg_A σ0 4 v) (hl : rg_L σ0 (2 + P) = rg_L σ0 0) (c : cQ σ0 σ) (hx : ∀ k, 36 ≤ k → rg_B σ 1 k = rg_B σ0 1 k) (hy : ∀ v, 12 ≤ v → rg_A σ 4 v = rg_A σ0 4 v) : ∃ σ', s_cX5_backToMark σ = some σ' ∧ cF [4] [0] [4] [1] σ σ' ∧ rg_B σ' 1 = rg_B σ0 1 ∧ rg_A σ' 4 = rg_A σ0 4 ∧ rg_I σ' 4 = nI ro ∧ rg_L σ' 0 = rg_L σ0 0 := by
  have e15 : rg_A σ (15 + P) = rg_A σ0 (15 + P) := c.2.2.1 _ (by simp; omega)
  have e9 : rg_B σ (9 + P) = rg_B σ0 (9 + P) := c.2.2.2 _ (by simp; omega)
  have e21 : rg_I σ (21 + P) = rg_I σ0 (21 + P) := c.1 _ (by simp; omega)
  have e2 : rg_L σ (2 + P) = rg_L σ0 (2 + P) := c.2.1 _ (by simp; omega)
  obtain ⟨σ', g1, g2, g3, g4, g5, g6, g7, g8⟩ := c_give (σ := σ) (j := P) (fun v hv => by rw [e15]; exact (hm.2.1 v hv).2)
  refine ⟨σ', ?_, g2, funext fun k => ?_, funext fun v => ?_, ?_, ?_⟩
  · unfold s_cX5_backToMark
    rw [c.1 11 (by decide), h11, ld_j hP, g1, kn_u_some]
  · by_cases z : k < 36
    · rw [g3 k z, e9, hs k z]
    · rw [g4 k (by omega), hx k (by omega)]
  · by_cases z : v < 12
    · rw [g5 v z, e15, hw v z]
    · rw [g6 v (by omega), hy v (by omega)]
  · rw [g7, e21]; exact hm.2.2
  · rw [g8, e2, hl]
